/-! what the two systems have in common: R n S A G T B, the class at (S, A, G), the reference at (T, B) -/
def wat (T : sS) : Int32 := if T 20 0 6 < 0 then -1 else if T 20 0 8 < 0 then -1 else if T 20 0 9 ≤ T 20 0 0 then -1 else T 20 0 8
def rT (n : Nat) (S T : sS) : Prop := T 20 0 0 = S 0 0 8 ∧ (0 ≤ (S 0 0 8).toInt ∧ (S 0 0 8).toInt ≤ 1000 * n) ∧ T 20 0 6 = S 0 0 9 ∧ T 20 0 7 = S 0 0 10 ∧ (0 ≤ (S 0 0 10).toInt ∧ (S 0 0 10).toInt ≤ (S 0 0 8).toInt) ∧ T 20 0 9 = S 0 0 12 ∧ S 0 0 11 = wat T
def rU1 (G : sG) (S B : sS) (u : Nat) : Prop := (G 1 u = none → B 22 0 u = 0 ∧ B 25 0 u = 0 ∧ B 26 0 u = 0) ∧ (¬ G 1 u = none → ¬ B 22 0 u = 0 ∧ B 23 0 u = S 12 u 0 ∧ B 24 0 u = S 12 u 1 ∧ B 25 0 u = S 12 u 2 ∧ B 26 0 u = S 12 u 3 ∧ (0 ≤ (S 12 u 0).toInt ∧ (S 12 u 0).toInt ≤ 2) ∧ (0 ≤ (S 12 u 2).toInt ∧ (S 12 u 2).toInt ≤ 2))
def rU (G : sG) (S B : sS) : Prop := (S 0 0 9 = -1 ∨ (0 ≤ (S 0 0 9).toInt ∧ (S 0 0 9).toInt < 16 ∧ ¬ G 1 (S 0 0 9).toNatClampNeg = none)) ∧ ∀ u, u < 16 → rU1 G S B u
def rI1 (G : sG) (S B : sS) (k : Nat) : Prop := (G 2 k = none → B 31 0 k = 0 ∧ B 34 0 k = 0) ∧ (¬ G 2 k = none → ¬ B 31 0 k = 0 ∧ B 32 0 k = S 13 k 0 ∧ B 33 0 k = S 13 k 1 ∧ B 34 0 k = S 13 k 2 ∧ (0 ≤ (S 13 k 1).toInt ∧ (S 13 k 1).toInt ≤ 10000))
def rI (G : sG) (S B : sS) : Prop := ∀ k, k < 32 → rI1 G S B k
def lotR (l : Int) (E U E1 U1 : Nat → Int32) : Prop := (0 ≤ l ∧ l ≤ 6) ∧ (∀ k : Nat, (k : Int) < l → U1 k = U k ∧ E1 k = E k ∧ 0 < (U k).toInt ∧ (U k).toInt ≤ 10000) ∧ (∀ j k : Nat, j ≤ k → (k : Int) < l → (E j).toInt ≤ (E k).toInt)
def rB1 (G : sG) (S A B : sS) (b : Nat) : Prop := B 35 0 b = S 15 b 2 ∧ B 36 0 b = S 15 b 3 ∧ B 39 0 b = S 15 b 4 ∧ B 40 0 b = S 15 b 5 ∧ ((S 15 b 2 = -1 ∧ S 15 b 3 = 0 ∧ S 15 b 4 = 0) ∨ (0 ≤ (S 15 b 2).toInt ∧ (S 15 b 2).toInt < 32 ∧ ¬ G 2 (S 15 b 2).toNatClampNeg = none)) ∧ lotR (S 15 b 3).toInt (A 16 b) (A 17 b) (fun k => B 38 0 (6 * b + k)) (fun k => B 37 0 (6 * b + k))
def rB (G : sG) (S A B : sS) : Prop := ∀ b, b < 64 → rB1 G S A B b
def rO1 (G : sG) (S B : sS) (q : Nat) : Prop := ¬ G 4 q = none ∧ B 42 0 q = S 14 q 0 ∧ ¬ G 2 (S 14 q 0).toNatClampNeg = none ∧ B 44 0 q = S 14 q 1 ∧ B 45 0 q = S 14 q 2 ∧ B 43 0 q = S 14 q 3 ∧ B 46 0 q = S 14 q 4 ∧ ((S 14 q 5 = 0 ∧ B 47 0 q = -1) ∨ (¬ S 14 q 5 = 0 ∧ B 47 0 q = S 14 q 6 ∧ 0 ≤ (S 14 q 6).toInt))
def rO (G : sG) (S T B : sS) : Prop := T 20 0 20 = S 0 0 13 ∧ (0 ≤ (S 0 0 13).toInt ∧ (S 0 0 13).toInt ≤ 60) ∧ (∀ q : Nat, (S 0 0 13).toInt ≤ (q : Int) → G 4 q = none) ∧ (∀ q : Nat, (S 0 0 13).toInt ≤ (q : Int) → B 46 0 q = 0) ∧ (∀ q, q < 60 → 0 ≤ (B 42 0 q).toInt ∧ (B 42 0 q).toInt < 32) ∧ ∀ q : Nat, (q : Int) < (S 0 0 13).toInt → rO1 G S B q
def rS (S T : sS) : Prop := T 20 0 27 = S 5 0 0 ∧ (-1 ≤ (S 5 0 0).toInt ∧ (S 5 0 0).toInt ≤ 3) ∧ (0 ≤ (T 20 0 28).toInt ∧ (T 20 0 28).toInt < 64) ∧ (S 5 0 0 = -1 → S 5 0 1 = -1 ∧ S 5 0 2 = -1) ∧ (¬ S 5 0 0 = -1 → T 20 0 28 = S 5 0 1 ∧ T 20 0 29 = S 5 0 2 ∧ T 20 0 30 = S 5 0 3 ∧ T 20 0 33 = S 5 0 6 ∧ (S 5 0 0 = 0 → 0 ≤ (S 5 0 2).toInt ∧ (S 5 0 2).toInt < (S 0 0 13).toInt) ∧ (¬ S 5 0 0 = 0 → S 5 0 2 = -1) ∧ (T 20 0 32 = 0 → (S 5 0 4 = 0 ↔ T 20 0 31 = 0) ∧ (S 5 0 4 = 0 → S 5 0 5 = 0)) ∧ (¬ T 20 0 32 = 0 → S 5 0 4 = 0 ∧ ¬ S 5 0 5 = 0) ∧ (S 5 0 0 = 2 → (S 5 0 5 = 0 ↔ T 20 0 32 = 0)))
def rF (S : sS) : Prop := ¬ S 5 0 0 = -1 → (S 5 0 0 = 1 → S 5 0 6 = 0 → (S 15 (S 5 0 1).toNatClampNeg 3).toInt < 6) ∧ (¬ S 5 0 0 = 1 → ¬ S 15 (S 5 0 1).toNatClampNeg 2 = -1)
def rL (S A T B : sS) : Prop := T 20 0 34 = S 6 0 1 ∧ (0 ≤ (S 6 0 1).toInt ∧ (S 6 0 1).toInt ≤ 300) ∧ (B 57 0 0 = A 9 0 0 ∧ B 57 0 1 = A 9 0 1) ∧ (∀ c, c < 2 → A 9 0 c = 0 → ∀ i : Nat, (i : Int) < 6 * (S 6 0 1).toInt → A 11 c i = B 56 0 i) ∧ (∀ j : Nat, (j : Int) < (S 6 0 1).toInt → (B 56 0 (6 * j + 3)).toInt < 0 ∨ B 56 0 (6 * j) = 1 ∨ B 56 0 (6 * j) = 2 ∨ B 56 0 (6 * j) = 3 ∨ B 56 0 (6 * j) = 4)
def rM (S A T B : sS) : Prop := T 20 0 37 = S 0 0 14 ∧ (0 ≤ (S 0 0 14).toInt ∧ (S 0 0 14).toInt ≤ 64) ∧ ∀ i : Nat, (i : Int) < (S 0 0 14).toInt → A 7 0 i = B 59 0 i
def rR (n : Nat) (S A : sS) (G : sG) (T B : sS) : Prop := rT n S T ∧ rU G S B ∧ rI G S B ∧ rB G S A B ∧ rO G S T B ∧ rS S T ∧ rF S ∧ rL S A T B ∧ rM S A T B
def rInv (n : Nat) (S A : sS) (G : sG) : Prop := rR n S A G S A
def lo (S : sS) : sS := fun f n k => if f < 20 then S f n k else 0
def hi (S : sS) : sS := fun f n k => if 20 ≤ f then S f n k else 0
theorem rR_cut {n : Nat} {S A : sS} {G : sG} {T B : sS} : rR n (lo S) (lo A) G (hi T) (hi B) ↔ rR n S A G T B := Iff.rfl
theorem rR.to {n : Nat} {S A S1 A1 : sS} {G : sG} {T B T1 B1 : sS} (h : rR n S A G T B) (e1 : lo S1 = lo S) (e2 : lo A1 = lo A) (e3 : hi T1 = hi T) (e4 : hi B1 = hi B) : rR n S1 A1 G T1 B1 := by
  have h1 := rR_cut.mpr h
  rw [← e1, ← e2, ← e3, ← e4] at h1
  exact rR_cut.mp h1
theorem rR.mono {n : Nat} {S A : sS} {G : sG} {T B : sS} (h : rR n S A G T B) : rR (n + 1) S A G T B := by
  obtain ⟨⟨a1, a2, a3⟩, h2⟩ := h
  exact ⟨⟨a1, ⟨a2.1, by omega⟩, a3⟩, h2⟩
theorem lo_up {S : sS} {f n k : Nat} {v : Int32} (h : 20 ≤ f) : lo (up3 S f n k v) = lo S := by
  funext f1 n1 k1
  unfold lo
  split
  · exact up3_n (fun z => by omega)
  · rfl
theorem hi_up {S : sS} {f n k : Nat} {v : Int32} (h : f < 20) : hi (up3 S f n k v) = hi S := by
  funext f1 n1 k1
  unfold hi
  split
  · exact up3_n (fun z => by omega)
  · rfl
theorem hi_upO {S : sS} {f n : Nat} {vs : List Int32} (h : f < 20) : hi (upO S f n vs) = hi S := by
  funext f1 n1 k1
  unfold hi
  split
  · exact upO_n (fun z => by omega)
  · rfl
/-- a call's two ends -/
def cg (n : Nat) (G1 : sG) (o6 o7 : Int32 × sS × sS) : Prop := o6.1 = o7.1 ∧ rR (n + 1) o6.2.1 o6.2.2 G1 o7.2.1 o7.2.2
theorem cg_no {n : Nat} {S A : sS} {G : sG} {T B : sS} (h : rR n S A G T B) (v : Int32) : cg n G (v, S, A) (v, T, B) := ⟨rfl, h.mono⟩
