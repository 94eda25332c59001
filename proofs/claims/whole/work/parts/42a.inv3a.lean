/-! the lots of a bin: sums, the first that is given -/
def sm (U : Nat → Int32) (a : Nat) : Nat → Int
  | 0 => 0
  | m + 1 => (U a).toInt + sm U (a + 1) m
def smg (E U : Nat → Int32) (now : Int) (a : Nat) : Nat → Int
  | 0 => 0
  | m + 1 => (if (E a).toInt ≤ now then 0 else (U a).toInt) + smg E U now (a + 1) m
theorem sm_cg {U V : Nat → Int32} : ∀ (m a : Nat), (∀ k, a ≤ k → k < a + m → U k = V k) → sm U a m = sm V a m := by
  intro m
  induction m with
  | zero => intro a _; rfl
  | succ m ih =>
    intro a h
    unfold sm
    rw [h a (Nat.le_refl _) (by omega), ih (a + 1) (fun k h1 h2 => h k (by omega) (by omega))]
theorem smg_cg {E U E1 U1 : Nat → Int32} {now : Int} : ∀ (m a : Nat), (∀ k, a ≤ k → k < a + m → U k = U1 k ∧ E k = E1 k) → smg E U now a m = smg E1 U1 now a m := by
  intro m
  induction m with
  | zero => intro a _; rfl
  | succ m ih =>
    intro a h
    unfold smg
    rw [(h a (Nat.le_refl _) (by omega)).1, (h a (Nat.le_refl _) (by omega)).2, ih (a + 1) (fun k h1 h2 => h k (by omega) (by omega))]
theorem sm_b {U : Nat → Int32} {l : Int} (hU : ∀ k : Nat, (k : Int) < l → 0 < (U k).toInt ∧ (U k).toInt ≤ 10000) : ∀ (m a : Nat), (a : Int) + m ≤ l → (m : Int) ≤ sm U a m ∧ sm U a m ≤ 10000 * m := by
  intro m
  induction m with
  | zero => intro a _; unfold sm; omega
  | succ m ih =>
    intro a h
    unfold sm
    have h1 := ih (a + 1) (by omega)
    have h2 := hU a (by omega)
    omega
theorem sm_add {U : Nat → Int32} : ∀ (m1 m2 a : Nat), sm U a (m1 + m2) = sm U a m1 + sm U (a + m1) m2 := by
  intro m1
  induction m1 with
  | zero =>
    intro m2 a
    rw [Nat.zero_add, Nat.add_zero, show sm U a 0 = 0 from rfl, Int.zero_add]
  | succ m1 ih =>
    intro m2 a
    rw [show m1 + 1 + m2 = (m1 + m2) + 1 by omega, sm, sm, ih m2 (a + 1), show a + 1 + m1 = a + (m1 + 1) by omega]
    omega
/-- what the lots are, for the reading of sums -/
def lotU (l : Int) (U : Nat → Int32) : Prop := (0 ≤ l ∧ l ≤ 6) ∧ ∀ k : Nat, (k : Int) < l → 0 < (U k).toInt ∧ (U k).toInt ≤ 10000
theorem sumFrom_v {S A : sS} {G : sG} {b : Nat} {x1 : Int32} (hl : lotU (S 15 b 3).toInt (A 17 b)) : ∀ (m r : Nat) (z : Int32) (j : Nat), (j : Int) + m = (S 15 b 3).toInt → m < r → 0 ≤ z.toInt → z.toInt ≤ 10000 * j → (V0_sumFrom_4 G b x1 r S A z j).toInt = z.toInt + sm (A 17 b) j m := by
  intro m
  induction m with
  | zero =>
    intro r z j h1 h2 h3 h4
    obtain ⟨r, rfl⟩ : ∃ q, r = q + 1 := ⟨r - 1, by omega⟩
    have e := nI_toInt (n := j) (by have := hl.1; omega)
    rw [V0_sumFrom_4, if_pos (Int32.le_iff_toInt_le.mpr (by omega))]
    unfold sm; omega
  | succ m ih =>
    intro r z j h1 h2 h3 h4
    obtain ⟨r, rfl⟩ : ∃ q, r = q + 1 := ⟨r - 1, by omega⟩
    have e := nI_toInt (n := j) (by have := hl.1; omega)
    rw [V0_sumFrom_4, if_neg (fun z => by have := Int32.le_iff_toInt_le.mp z; omega)]
    have hu := hl.2 j (by omega)
    have h6 := hl.1.2
    have ea := add_i (x := z) (y := A 17 b j) (by omega) (by omega)
    rw [ih r _ (j + 1) (by omega) (by omega) (by omega) (by omega), ea, sm]
    omega
