/-! the bins' lots -/
def fA (b : Nat) (A A1 : sS) : Prop := ∀ f n k, ¬ ((f = 16 ∨ f = 17) ∧ n = b) → A1 f n k = A f n k
def fB (b : Nat) (B B1 : sS) : Prop := ∀ f n k, ¬ ((f = 36 ∧ k = b) ∨ ((f = 37 ∨ f = 38) ∧ 6 * b ≤ k ∧ k < 6 * b + 6)) → B1 f n k = B f n k
theorem fA_r {b : Nat} {A : sS} : fA b A A := fun _ _ _ _ => rfl
theorem fB_r {b : Nat} {B : sS} : fB b B B := fun _ _ _ _ => rfl
theorem fA_t {b : Nat} {A A1 A2 : sS} (h : fA b A A1) (h2 : fA b A1 A2) : fA b A A2 := fun f n k z => (h2 f n k z).trans (h f n k z)
theorem fB_t {b : Nat} {A A1 A2 : sS} (h : fB b A A1) (h2 : fB b A1 A2) : fB b A A2 := fun f n k z => (h2 f n k z).trans (h f n k z)
theorem fA_16 {b : Nat} {A A1 : sS} {j : Nat} {v : Int32} (h : fA b A A1) : fA b A (up3 A1 16 b j v) := fun f n k z => (up3_n (fun y => z ⟨Or.inl y.1, y.2.2⟩)).trans (h f n k z)
theorem fA_17 {b : Nat} {A A1 : sS} {j : Nat} {v : Int32} (h : fA b A A1) : fA b A (up3 A1 17 b j v) := fun f n k z => (up3_n (fun y => z ⟨Or.inr y.1, y.2.2⟩)).trans (h f n k z)
theorem fB_36 {b : Nat} {A A1 : sS} {v : Int32} (h : fB b A A1) : fB b A (up3 A1 36 0 b v) := fun f n k z => (up3_n (fun y => z (Or.inl ⟨y.1, y.2.1⟩))).trans (h f n k z)
theorem fB_37 {b : Nat} {A A1 : sS} {j : Nat} {v : Int32} (hj : j < 6) (h : fB b A A1) : fB b A (up3 A1 37 0 (6 * b + j) v) := fun f n k z => (up3_n (fun y => z (Or.inr ⟨Or.inl y.1, by have := y.2.1; omega⟩))).trans (h f n k z)
theorem fB_38 {b : Nat} {A A1 : sS} {j : Nat} {v : Int32} (hj : j < 6) (h : fB b A A1) : fB b A (up3 A1 38 0 (6 * b + j) v) := fun f n k z => (up3_n (fun y => z (Or.inr ⟨Or.inr y.1, by have := y.2.1; omega⟩))).trans (h f n k z)
theorem up3_6 {B : sS} {f b j k : Nat} {v : Int32} : up3 B f 0 (6 * b + j) v f 0 (6 * b + k) = if k = j then v else B f 0 (6 * b + k) := by
  rw [up3_i]
  by_cases e : k = j
  · rw [if_pos e, if_pos (by omega)]
  · rw [if_neg e, if_neg (by omega)]
/-- lots 0 .. l but j, in both; behind j all expire later than ex -/
def hol (l j : Nat) (ex : Int32) (E U E1 U1 : Nat → Int32) : Prop := (∀ k, k ≤ l → ¬ k = j → U1 k = U k ∧ E1 k = E k ∧ 0 < (U k).toInt ∧ (U k).toInt ≤ 10000) ∧ (∀ a c, a ≤ c → c ≤ l → ¬ a = j → ¬ c = j → (E a).toInt ≤ (E c).toInt) ∧ (∀ k, j < k → k ≤ l → ex.toInt < (E k).toInt)
theorem hol_end {l j : Nat} {ex am : Int32} {E U E1 U1 F V F1 V1 : Nat → Int32} (h : hol l j ex E U E1 U1) (hj : j ≤ l) (hl : l < 6) (ha : 0 < am.toInt ∧ am.toInt ≤ 10000) (hd : j = 0 ∨ (E (j - 1)).toInt ≤ ex.toInt) (eF : ∀ k, F k = if k = j then ex else E k) (eV : ∀ k, V k = if k = j then am else U k) (eF1 : ∀ k, F1 k = if k = j then ex else E1 k) (eV1 : ∀ k, V1 k = if k = j then am else U1 k) : lotR ((l : Int) + 1) F V F1 V1 := by
  refine ⟨by omega, fun k hk => ?_, fun a c hac hc => ?_⟩
  · rw [eV1, eV, eF1, eF]
    by_cases e : k = j
    · rw [if_pos e, if_pos e, if_pos e, if_pos e]; exact ⟨rfl, rfl, ha⟩
    · rw [if_neg e, if_neg e, if_neg e, if_neg e]; exact h.1 k (by omega) e
  · rw [eF, eF]
    by_cases e : a = j
    · by_cases e2 : c = j
      · rw [if_pos e, if_pos e2]; exact Int.le_refl _
      · rw [if_pos e, if_neg e2]
        have := h.2.2 c (by omega) (by omega)
        omega
    · by_cases e2 : c = j
      · rw [if_neg e, if_pos e2]
        have h1 := hd.resolve_left (by omega)
        have h2 := h.2.1 a (j - 1) (by omega) (by omega) e (by omega)
        omega
      · rw [if_neg e, if_neg e2]
        exact h.2.1 a c hac (by omega) e e2
theorem hol_step {l j : Nat} {ex : Int32} {E U E1 U1 F V F1 V1 : Nat → Int32} (h : hol l (j + 1) ex E U E1 U1) (hj : j + 1 ≤ l) (hd : ex.toInt < (E j).toInt) (eF : ∀ k, F k = if k = j + 1 then E j else E k) (eV : ∀ k, V k = if k = j + 1 then U j else U k) (eF1 : ∀ k, F1 k = if k = j + 1 then E1 j else E1 k) (eV1 : ∀ k, V1 k = if k = j + 1 then U1 j else U1 k) : hol l j ex F V F1 V1 := by
  refine ⟨fun k hk hkj => ?_, fun a c hac hc haj hcj => ?_, fun k hk hkl => ?_⟩
  · rw [eV1, eV, eF1, eF]
    by_cases e : k = j + 1
    · rw [if_pos e, if_pos e, if_pos e, if_pos e]; exact h.1 j (by omega) (by omega)
    · rw [if_neg e, if_neg e, if_neg e, if_neg e]; exact h.1 k hk e
  · rw [eF, eF]
    by_cases e : a = j + 1
    · by_cases e2 : c = j + 1
      · rw [if_pos e, if_pos e2]; exact Int.le_refl _
      · rw [if_pos e, if_neg e2]
        exact h.2.1 j c (by omega) hc (by omega) e2
    · by_cases e2 : c = j + 1
      · rw [if_neg e, if_pos e2]
        exact h.2.1 a j (by omega) (by omega) e (by omega)
      · rw [if_neg e, if_neg e2]
        exact h.2.1 a c hac hc e e2
  · rw [eF]
    by_cases e : k = j + 1
    · rw [if_pos e]; exact hd
    · rw [if_neg e]; exact h.2.2 k (by omega) hkl
section LOTS
variable {S T : sS} {G G1 : sG} {x : Int32}
theorem add_l {am ex : Int32} {l : Nat} (hl : l < 6) (ha : 0 < am.toInt ∧ am.toInt ≤ 10000) : ∀ (j r : Nat) (A B : sS), j < r → j ≤ l → hol l j ex (A 16 x.toNatClampNeg) (A 17 x.toNatClampNeg) (fun k => B 38 0 (6 * x.toNatClampNeg + k)) (fun k => B 37 0 (6 * x.toNatClampNeg + k)) → ∃ A1 B1, O0_addLot_15 G x.toNatClampNeg am ex r S A j = (up3 S 15 x.toNatClampNeg 3 (S 15 x.toNatClampNeg 3 + 1), A1) ∧ O7_putLot_8 G1 x ex am r T B j = (T, B1) ∧ fA x.toNatClampNeg A A1 ∧ fB x.toNatClampNeg B B1 ∧ B1 36 0 x.toNatClampNeg = B 36 0 x.toNatClampNeg + 1 ∧ lotR ((l : Int) + 1) (A1 16 x.toNatClampNeg) (A1 17 x.toNatClampNeg) (fun k => B1 38 0 (6 * x.toNatClampNeg + k)) (fun k => B1 37 0 (6 * x.toNatClampNeg + k)) := by
  intro j
  induction j with
  | zero =>
    intro r A B hr hj h
    obtain ⟨r, rfl⟩ : ∃ q, r = q + 1 := ⟨r - 1, by omega⟩
    have c : nI 0 ≤ 0 := by decide
    rw [O0_addLot_15, O7_putLot_8, if_pos c, if_pos c]
    refine ⟨_, _, rfl, rfl, fA_17 (fA_16 fA_r), fB_36 (fB_38 (by omega) (fB_37 (by omega) fB_r)), up3_s, ?_⟩
    exact hol_end h hj hl ha (Or.inl rfl) (fun k => (show _ = up3 A 16 x.toNatClampNeg 0 ex 16 x.toNatClampNeg k from rfl).trans up3_i) (fun k => up3_i) (fun k => (show _ = up3 B 38 0 (6 * x.toNatClampNeg + 0) ex 38 0 (6 * x.toNatClampNeg + k) from rfl).trans up3_6) (fun k => (show _ = up3 B 37 0 (6 * x.toNatClampNeg + 0) am 37 0 (6 * x.toNatClampNeg + k) from rfl).trans up3_6)
  | succ j ih =>
    intro r A B hr hj h
    obtain ⟨r, rfl⟩ : ∃ q, r = q + 1 := ⟨r - 1, by omega⟩
    have e := nI_toInt (n := j + 1) (by omega)
    have c : ¬ nI (j + 1) ≤ 0 := fun z => by have := Int32.le_iff_toInt_le.mp z; rw [e, il0] at this; omega
    have q := h.1 j (by omega) (by omega)
    have q38 : B 38 0 (6 * x.toNatClampNeg + j) = A 16 x.toNatClampNeg j := q.2.1
    rw [O0_addLot_15, O7_putLot_8, if_neg c, if_neg c, Nat.add_sub_cancel, q38]
    by_cases d : A 16 x.toNatClampNeg j ≤ ex
    · rw [if_pos d, if_pos d]
      refine ⟨_, _, rfl, rfl, fA_17 (fA_16 fA_r), fB_36 (fB_38 (by omega) (fB_37 (by omega) fB_r)), up3_s, ?_⟩
      exact hol_end h hj hl ha (Or.inr (le_i d)) (fun k => (show _ = up3 A 16 x.toNatClampNeg (j + 1) ex 16 x.toNatClampNeg k from rfl).trans up3_i) (fun k => up3_i) (fun k => (show _ = up3 B 38 0 (6 * x.toNatClampNeg + (j + 1)) ex 38 0 (6 * x.toNatClampNeg + k) from rfl).trans up3_6) (fun k => (show _ = up3 B 37 0 (6 * x.toNatClampNeg + (j + 1)) am 37 0 (6 * x.toNatClampNeg + k) from rfl).trans up3_6)
    · rw [if_neg d, if_neg d]
      have h2 : hol l j ex (up3 (up3 A 16 x.toNatClampNeg (j + 1) (A 16 x.toNatClampNeg j)) 17 x.toNatClampNeg (j + 1) (A 17 x.toNatClampNeg j) 16 x.toNatClampNeg) (up3 (up3 A 16 x.toNatClampNeg (j + 1) (A 16 x.toNatClampNeg j)) 17 x.toNatClampNeg (j + 1) (A 17 x.toNatClampNeg j) 17 x.toNatClampNeg) (fun k => up3 (up3 B 37 0 (6 * x.toNatClampNeg + (j + 1)) (B 37 0 (6 * x.toNatClampNeg + j))) 38 0 (6 * x.toNatClampNeg + (j + 1)) (A 16 x.toNatClampNeg j) 38 0 (6 * x.toNatClampNeg + k)) (fun k => up3 (up3 B 37 0 (6 * x.toNatClampNeg + (j + 1)) (B 37 0 (6 * x.toNatClampNeg + j))) 38 0 (6 * x.toNatClampNeg + (j + 1)) (A 16 x.toNatClampNeg j) 37 0 (6 * x.toNatClampNeg + k)) := by
        refine hol_step h hj (by have := nle_i d; exact this) (fun k => (show _ = up3 A 16 x.toNatClampNeg (j + 1) (A 16 x.toNatClampNeg j) 16 x.toNatClampNeg k from rfl).trans up3_i) (fun k => up3_i) (fun k => ?_) (fun k => ?_)
        · rw [up3_6, q38]
          by_cases z : k = j + 1
          · rw [if_pos z, if_pos z]
          · rw [if_neg z, if_neg z]; rfl
        · exact (show _ = up3 B 37 0 (6 * x.toNatClampNeg + (j + 1)) (B 37 0 (6 * x.toNatClampNeg + j)) 37 0 (6 * x.toNatClampNeg + k) from rfl).trans up3_6
      obtain ⟨A1, B1, r1, r2, r3, r4, r5, r6⟩ := ih r _ _ (by omega) (by omega) h2
      exact ⟨A1, B1, r1, r2, fA_t (fA_17 (fA_16 fA_r)) r3, fB_t (fB_38 (by omega) (fB_37 (by omega) fB_r)) r4, r5, r6⟩
/-- a lot is put into a bin -/
theorem add_v {A B : sS} {am ex : Int32} (e36 : B 36 0 x.toNatClampNeg = S 15 x.toNatClampNeg 3) (hl : lotR (S 15 x.toNatClampNeg 3).toInt (A 16 x.toNatClampNeg) (A 17 x.toNatClampNeg) (fun k => B 38 0 (6 * x.toNatClampNeg + k)) (fun k => B 37 0 (6 * x.toNatClampNeg + k))) (h6 : (S 15 x.toNatClampNeg 3).toInt < 6) (ha : 0 < am.toInt ∧ am.toInt ≤ 10000) : ∃ A1 B1 v, O0_addLot S A G x.toNatClampNeg am ex = (up3 S 15 x.toNatClampNeg 3 v, A1) ∧ O7_putLot T B G1 x ex am = (T, B1) ∧ fA x.toNatClampNeg A A1 ∧ fB x.toNatClampNeg B B1 ∧ B1 36 0 x.toNatClampNeg = v ∧ lotR v.toInt (A1 16 x.toNatClampNeg) (A1 17 x.toNatClampNeg) (fun k => B1 38 0 (6 * x.toNatClampNeg + k)) (fun k => B1 37 0 (6 * x.toNatClampNeg + k)) := by
  obtain ⟨⟨l0, -⟩, lU, lE⟩ := hl
  obtain ⟨l, hl⟩ : ∃ l : Nat, (S 15 x.toNatClampNeg 3).toInt = l := ⟨(S 15 x.toNatClampNeg 3).toInt.toNat, by omega⟩
  have ec := cl_i l0
  have ecl : (S 15 x.toNatClampNeg 3).toNatClampNeg = l := by omega
  have hh : hol l l ex (A 16 x.toNatClampNeg) (A 17 x.toNatClampNeg) (fun k => B 38 0 (6 * x.toNatClampNeg + k)) (fun k => B 37 0 (6 * x.toNatClampNeg + k)) := by
    refine ⟨fun k hk hkl => lU k (by omega), fun a c hac hc ha hcl => lE a c hac (by omega), fun k hk hkl => by omega⟩
  obtain ⟨A1, B1, r1, r2, r3, r4, r5, r6⟩ := add_l (S := S) (T := T) (G := G) (G1 := G1) (x := x) (am := am) (ex := ex) (l := l) (by omega) ha l 7 A B (by omega) (by omega) hh
  have ea := add_i (x := S 15 x.toNatClampNeg 3) (y := 1) (by rw [il1]; omega) (by rw [il1]; omega)
  rw [il1, hl] at ea
  refine ⟨A1, B1, S 15 x.toNatClampNeg 3 + 1, ?_, ?_, r3, r4, by rw [r5, e36], by rw [ea]; exact r6⟩
  · unfold O0_addLot
    rw [if_pos (Int32.lt_iff_toInt_lt.mpr (by rw [il6]; exact h6)), ecl]
    exact r1
  · unfold O7_putLot
    rw [e36, ecl]
    exact r2
/-- what is left to take before lot k, and what stays of lot k -/
def gz (U : Nat → Int32) (p : Nat) (z : Int32) : Nat → Int32
  | 0 => z
  | k + 1 => if k < p then gz U p z k else gz U p z k - (if U k < gz U p z k then U k else gz U p z k)
def gV (U : Nat → Int32) (p : Nat) (z : Int32) (k : Nat) : Int32 := if k < p then U k else U k - (if U k < gz U p z k then U k else gz U p z k)
theorem gz_p {U : Nat → Int32} {p : Nat} {z : Int32} : ∀ k, k ≤ p → gz U p z k = z := by
  intro k
  induction k with
  | zero => intro _; rfl
  | succ k ih =>
    intro h
    rw [gz, if_pos (by omega), ih (by omega)]
theorem g_b {U : Nat → Int32} {p l : Nat} {z : Int32} (hz : 0 ≤ z.toInt) (hU : ∀ k, k < l → 0 < (U k).toInt ∧ (U k).toInt ≤ 10000) : ∀ k, k ≤ l → 0 ≤ (gz U p z k).toInt := by
  intro k
  induction k with
  | zero => intro _; exact hz
  | succ k ih =>
    intro h
    have i1 := ih (by omega)
    have u1 := hU k (by omega)
    rw [gz]
    by_cases c : k < p
    · rw [if_pos c]; exact i1
    · rw [if_neg c]
      by_cases d : U k < gz U p z k
      · rw [if_pos d]
        have d' := lt_i d
        rw [sub_i (by omega) (by have := Int32.toInt_lt (gz U p z k); omega)]
        omega
      · rw [if_neg d, sub_i (by omega) (by omega)]
        omega
theorem gV_b {U : Nat → Int32} {p l : Nat} {z : Int32} (hz : 0 ≤ z.toInt) (hU : ∀ k, k < l → 0 < (U k).toInt ∧ (U k).toInt ≤ 10000) {k : Nat} (hk : k < l) : 0 ≤ (gV U p z k).toInt ∧ (gV U p z k).toInt ≤ 10000 := by
  have i1 := g_b (p := p) hz hU k (by omega)
  have u1 := hU k hk
  unfold gV
  by_cases c : k < p
  · rw [if_pos c]; omega
  · rw [if_neg c]
    by_cases d : U k < gz U p z k
    · rw [if_pos d, sub_i (by omega) (by omega)]; omega
    · have d' := nlt_i d
      rw [if_neg d, sub_i (by omega) (by omega)]; omega
/-- the class takes units out, lot after lot -/
theorem rem_v {U : Nat → Int32} {p l : Nat} {z0 x1 x2 : Int32} {b : Nat} (hl : (S 15 b 3).toInt = l) (h6 : l ≤ 6) : ∀ (m r : Nat) (A : sS) (j : Nat), j + m = l → m < r → p ≤ j → (∀ k, k < l → A 17 b k = if p ≤ k ∧ k < j then gV U p z0 k else U k) → ∃ A1, O0_remove_5 G b x1 x2 r S A (gz U p z0 j) j = O0_dropEmptyLots S A1 G b ∧ fA b A A1 ∧ (∀ k, A1 16 b k = A 16 b k) ∧ ∀ k, k < l → A1 17 b k = gV U p z0 k := by
  intro m
  induction m with
  | zero =>
    intro r A j h1 h2 hp h
    obtain ⟨r, rfl⟩ : ∃ q, r = q + 1 := ⟨r - 1, by omega⟩
    have e := nI_toInt (n := j) (by omega)
    rw [O0_remove_5, if_pos (Int32.le_iff_toInt_le.mpr (by rw [e]; omega))]
    refine ⟨A, rfl, fA_r, fun _ => rfl, fun k hk => ?_⟩
    rw [h k hk]
    by_cases c : p ≤ k
    · rw [if_pos ⟨c, by omega⟩]
    · rw [if_neg (fun z => c z.1)]
      unfold gV
      rw [if_pos (by omega)]
  | succ m ih =>
    intro r A j h1 h2 hp h
    obtain ⟨r, rfl⟩ : ∃ q, r = q + 1 := ⟨r - 1, by omega⟩
    have e := nI_toInt (n := j) (by omega)
    have hj : A 17 b j = U j := by rw [h j (by omega), if_neg (fun z => by omega)]
    have q1 : ¬ S 15 b 3 ≤ nI j := fun z => by have := Int32.le_iff_toInt_le.mp z; rw [e] at this; omega
    rw [O0_remove_5, if_neg q1, hj]
    have ez : gz U p z0 j - (if U j < gz U p z0 j then U j else gz U p z0 j) = gz U p z0 (j + 1) := by rw [gz, if_neg (show ¬ j < p by omega)]
    rw [ez]
    obtain ⟨A1, r1, r2, r3, r4⟩ := ih r (up3 A 17 b j (U j - (if U j < gz U p z0 j then U j else gz U p z0 j))) (j + 1) (by omega) (by omega) (by omega) (fun k hk => by
      rw [up3_i, h k hk]
      by_cases c : k = j
      · subst c
        rw [if_pos rfl, if_pos (show p ≤ k ∧ k < k + 1 from ⟨hp, by omega⟩)]
        unfold gV
        rw [if_neg (show ¬ k < p by omega)]
      · rw [if_neg c]
        by_cases d : p ≤ k ∧ k < j
        · rw [if_pos d, if_pos ⟨d.1, by omega⟩]
        · rw [if_neg d, if_neg (fun z => d ⟨z.1, by omega⟩)])
    exact ⟨A1, r1, fA_t (fA_17 fA_r) r2, r3, r4⟩
theorem take_s {B : sS} {n0 x3 z : Int32} {r i tt : Nat} (h : ¬ B 36 0 x.toNatClampNeg ≤ nI i) {g : Int32} (hg : g = if x3 = 0 ∧ B 38 0 (6 * x.toNatClampNeg + i) ≤ T 20 0 0 then 0 else if B 37 0 (6 * x.toNatClampNeg + i) < z then B 37 0 (6 * x.toNatClampNeg + i) else z) : O7_takeUnits_9 G1 x n0 x3 (r + 1) T B z tt i = if B 37 0 (6 * x.toNatClampNeg + i) - g ≤ 0 then O7_takeUnits_9 G1 x n0 x3 r T B (z - g) tt (i + 1) else O7_takeUnits_9 G1 x n0 x3 r T (up3 (up3 B 37 0 (6 * x.toNatClampNeg + tt) (B 37 0 (6 * x.toNatClampNeg + i) - g)) 38 0 (6 * x.toNatClampNeg + tt) (B 38 0 (6 * x.toNatClampNeg + i))) (z - g) (tt + 1) (i + 1) := by
  rw [O7_takeUnits_9, if_neg h]
  have hz : z ≤ B 37 0 (6 * x.toNatClampNeg + i) ↔ ¬ B 37 0 (6 * x.toNatClampNeg + i) < z := by simp only [Int32.lt_iff_toInt_lt, Int32.le_iff_toInt_le, ← Int32.toInt_inj, il0, il1, il2, il3, il4, il5, il6, il15, il16, il31, il32, il40, il60, il63, il64, il120, il290, il300, il1000, il10000, il100000, ln1, ln2, ln3, ln4, ln5, ln6, ln7, ln8, ln9, ln10]; omega
  by_cases c1 : x3 = 0
  · rw [if_pos c1]
    by_cases c2 : B 38 0 (6 * x.toNatClampNeg + i) ≤ T 20 0 0
    · rw [if_pos ⟨c1, c2⟩] at hg
      rw [if_pos c2, hg]
    · rw [if_neg (fun z => c2 z.2)] at hg
      rw [if_neg c2]
      by_cases c3 : B 37 0 (6 * x.toNatClampNeg + i) < z
      · rw [if_pos c3] at hg
        rw [if_neg (fun y => hz.mp y c3), hg]
      · rw [if_neg c3] at hg
        rw [if_pos (hz.mpr c3), hg]
  · rw [if_neg c1]
    rw [if_neg (fun z => c1 z.1)] at hg
    by_cases c3 : B 37 0 (6 * x.toNatClampNeg + i) < z
    · rw [if_pos c3] at hg
      rw [if_neg (fun y => hz.mp y c3), hg]
    · rw [if_neg c3] at hg
      rw [if_pos (hz.mpr c3), hg]
/-- what is dropped in both -/
theorem drop_v {U E : Nat → Int32} {p l : Nat} {z0 n0 x3 : Int32} (hl : (S 15 x.toNatClampNeg 3).toInt = l) (h6 : l ≤ 6) (hz : 0 ≤ z0.toInt) (hU : ∀ k, k < l → 0 < (U k).toInt ∧ (U k).toInt ≤ 10000) (hE : ∀ a c, a ≤ c → c < l → (E a).toInt ≤ (E c).toInt) (hm : ∀ k, k < l → ((x3 = 0 ∧ E k ≤ T 20 0 0) ↔ k < p)) : ∀ (m r : Nat) (A B : sS) (i tt : Nat), i + m = l → m < r → tt ≤ i → B 36 0 x.toNatClampNeg = S 15 x.toNatClampNeg 3 → (∀ k, i ≤ k → k < l → A 16 x.toNatClampNeg k = E k ∧ A 17 x.toNatClampNeg k = gV U p z0 k ∧ B 38 0 (6 * x.toNatClampNeg + k) = E k ∧ B 37 0 (6 * x.toNatClampNeg + k) = U k) → (∀ k, k < tt → B 37 0 (6 * x.toNatClampNeg + k) = A 17 x.toNatClampNeg k ∧ B 38 0 (6 * x.toNatClampNeg + k) = A 16 x.toNatClampNeg k ∧ 0 < (A 17 x.toNatClampNeg k).toInt ∧ (A 17 x.toNatClampNeg k).toInt ≤ 10000) → (∀ a c, a ≤ c → c < tt → (A 16 x.toNatClampNeg a).toInt ≤ (A 16 x.toNatClampNeg c).toInt) → (∀ a c, a < tt → i ≤ c → c < l → (A 16 x.toNatClampNeg a).toInt ≤ (E c).toInt) → ∃ A1 B1 v, O0_dropEmptyLots_4 G x.toNatClampNeg r S A tt i = (up3 S 15 x.toNatClampNeg 3 v, A1) ∧ O7_takeUnits_9 G1 x n0 x3 r T B (gz U p z0 i) tt i = (T, B1) ∧ fA x.toNatClampNeg A A1 ∧ fB x.toNatClampNeg B B1 ∧ B1 36 0 x.toNatClampNeg = v ∧ lotR v.toInt (A1 16 x.toNatClampNeg) (A1 17 x.toNatClampNeg) (fun k => B1 38 0 (6 * x.toNatClampNeg + k)) (fun k => B1 37 0 (6 * x.toNatClampNeg + k)) := by
  intro m
  induction m with
  | zero =>
    intro r A B i tt h1 h2 ht e36 p1 p2 p3 p4
    obtain ⟨r, rfl⟩ : ∃ q, r = q + 1 := ⟨r - 1, by omega⟩
    have e := nI_toInt (n := i) (by omega)
    have et := nI_toInt (n := tt) (by omega)
    have c : S 15 x.toNatClampNeg 3 ≤ nI i := Int32.le_iff_toInt_le.mpr (by rw [e]; omega)
    rw [O0_dropEmptyLots_4, O7_takeUnits_9, e36, if_pos c, if_pos c]
    refine ⟨A, up3 B 36 0 x.toNatClampNeg (nI tt), nI tt, rfl, rfl, fA_r, fB_36 fB_r, up3_s, ?_⟩
    rw [et]
    exact ⟨by omega, fun k hk => p2 k (by omega), fun a c hac hc => p3 a c hac (by omega)⟩
  | succ m ih =>
    intro r A B i tt h1 h2 ht e36 p1 p2 p3 p4
    obtain ⟨r, rfl⟩ : ∃ q, r = q + 1 := ⟨r - 1, by omega⟩
    have e := nI_toInt (n := i) (by omega)
    have c : ¬ S 15 x.toNatClampNeg 3 ≤ nI i := fun z => by have := Int32.le_iff_toInt_le.mp z; rw [e] at this; omega
    obtain ⟨i1, i2, i3, i4⟩ := p1 i (by omega) (by omega)
    obtain ⟨g, hg⟩ : ∃ g, g = if i < p then 0 else if U i < gz U p z0 i then U i else gz U p z0 i := ⟨_, rfl⟩
    have hg2 : g = if x3 = 0 ∧ B 38 0 (6 * x.toNatClampNeg + i) ≤ T 20 0 0 then 0 else if B 37 0 (6 * x.toNatClampNeg + i) < gz U p z0 i then B 37 0 (6 * x.toNatClampNeg + i) else gz U p z0 i := by
      rw [i3, i4, hg]
      by_cases d : i < p
      · rw [if_pos d, if_pos ((hm i (by omega)).mpr d)]
      · rw [if_neg d, if_neg (fun z => d ((hm i (by omega)).mp z))]
    have hgV : U i - g = gV U p z0 i := by
      rw [hg]; unfold gV
      by_cases d : i < p
      · rw [if_pos d, if_pos d, Int32.sub_zero]
      · rw [if_neg d, if_neg d]
    have hgz : gz U p z0 i - g = gz U p z0 (i + 1) := by
      rw [hg, gz]
      by_cases d : i < p
      · rw [if_pos d, if_pos d, Int32.sub_zero]
      · rw [if_neg d, if_neg d]
    rw [O0_dropEmptyLots_4, take_s (by rw [e36]; exact c) hg2, if_neg c, i1, i2, i3, i4, hgV, hgz]
    have hb := gV_b (p := p) hz hU (k := i) (by omega)
    by_cases d : gV U p z0 i ≤ 0
    · rw [if_pos d, if_pos d]
      exact ih r A B (i + 1) tt (by omega) (by omega) (by omega) e36 (fun k h3 h4 => p1 k (by omega) h4) p2 p3 (fun a c h3 h4 h5 => p4 a c h3 (by omega) h5)
    · rw [if_neg d, if_neg d]
      have d' : 0 < (gV U p z0 i).toInt := by have := nle_i d; rw [il0] at this; exact this
      have v16 : ∀ k, up3 (up3 A 16 x.toNatClampNeg tt (E i)) 17 x.toNatClampNeg tt (gV U p z0 i) 16 x.toNatClampNeg k = if k = tt then E i else A 16 x.toNatClampNeg k := fun k => (show _ = up3 A 16 x.toNatClampNeg tt (E i) 16 x.toNatClampNeg k from rfl).trans up3_i
      have v17 : ∀ k, up3 (up3 A 16 x.toNatClampNeg tt (E i)) 17 x.toNatClampNeg tt (gV U p z0 i) 17 x.toNatClampNeg k = if k = tt then gV U p z0 i else A 17 x.toNatClampNeg k := fun k => up3_i
      have v38 : ∀ k, up3 (up3 B 37 0 (6 * x.toNatClampNeg + tt) (gV U p z0 i)) 38 0 (6 * x.toNatClampNeg + tt) (E i) 38 0 (6 * x.toNatClampNeg + k) = if k = tt then E i else B 38 0 (6 * x.toNatClampNeg + k) := fun k => up3_6
      have v37 : ∀ k, up3 (up3 B 37 0 (6 * x.toNatClampNeg + tt) (gV U p z0 i)) 38 0 (6 * x.toNatClampNeg + tt) (E i) 37 0 (6 * x.toNatClampNeg + k) = if k = tt then gV U p z0 i else B 37 0 (6 * x.toNatClampNeg + k) := fun k => (show _ = up3 B 37 0 (6 * x.toNatClampNeg + tt) (gV U p z0 i) 37 0 (6 * x.toNatClampNeg + k) from rfl).trans up3_6
      obtain ⟨A1, B1, v, r1, r2, r3, r4, r5, r6⟩ := ih r (up3 (up3 A 16 x.toNatClampNeg tt (E i)) 17 x.toNatClampNeg tt (gV U p z0 i)) (up3 (up3 B 37 0 (6 * x.toNatClampNeg + tt) (gV U p z0 i)) 38 0 (6 * x.toNatClampNeg + tt) (E i)) (i + 1) (tt + 1) (by omega) (by omega) (by omega) e36
        (fun k h3 h4 => by
          rw [v16, v17, v38, v37, if_neg (by omega), if_neg (by omega), if_neg (by omega), if_neg (by omega)]
          exact p1 k (by omega) h4)
        (fun k h3 => by
          rw [v16, v17, v38, v37]
          by_cases z : k = tt
          · rw [if_pos z, if_pos z, if_pos z, if_pos z]; exact ⟨rfl, rfl, d', hb.2⟩
          · rw [if_neg z, if_neg z, if_neg z, if_neg z]; exact p2 k (by omega))
        (fun a c h3 h4 => by
          rw [v16, v16]
          by_cases z : c = tt
          · by_cases y : a = tt
            · rw [if_pos z, if_pos y]; exact Int.le_refl _
            · rw [if_pos z, if_neg y]; exact p4 a i (by omega) (Nat.le_refl _) (by omega)
          · rw [if_neg z, if_neg (by omega)]; exact p3 a c h3 (by omega))
        (fun a c h3 h4 h5 => by
          rw [v16]
          by_cases y : a = tt
          · rw [if_pos y]; exact hE i c (by omega) h5
          · rw [if_neg y]; exact p4 a c (by omega) (by omega) h5)
      exact ⟨A1, B1, v, r1, r2, fA_t (fA_17 (fA_16 fA_r)) r3, fB_t (fB_38 (by omega) (fB_37 (by omega) fB_r)) r4, r5, r6⟩
/-- units are taken out of a bin -/
theorem take_v {A B : sS} {z0 x3 : Int32} {p : Nat} (e36 : B 36 0 x.toNatClampNeg = S 15 x.toNatClampNeg 3) (hl : lotR (S 15 x.toNatClampNeg 3).toInt (A 16 x.toNatClampNeg) (A 17 x.toNatClampNeg) (fun k => B 38 0 (6 * x.toNatClampNeg + k)) (fun k => B 37 0 (6 * x.toNatClampNeg + k))) (hz : 0 ≤ z0.toInt) (hp : (p : Int) ≤ (S 15 x.toNatClampNeg 3).toInt) (hm : ∀ k : Nat, (k : Int) < (S 15 x.toNatClampNeg 3).toInt → ((x3 = 0 ∧ A 16 x.toNatClampNeg k ≤ T 20 0 0) ↔ k < p)) : ∃ A1 B1 v, O0_remove S A G x.toNatClampNeg z0 (nI p) = (up3 S 15 x.toNatClampNeg 3 v, A1) ∧ O7_takeUnits T B G1 x z0 x3 = (T, B1) ∧ fA x.toNatClampNeg A A1 ∧ fB x.toNatClampNeg B B1 ∧ B1 36 0 x.toNatClampNeg = v ∧ lotR v.toInt (A1 16 x.toNatClampNeg) (A1 17 x.toNatClampNeg) (fun k => B1 38 0 (6 * x.toNatClampNeg + k)) (fun k => B1 37 0 (6 * x.toNatClampNeg + k)) := by
  obtain ⟨⟨l0, l6⟩, lU, lE⟩ := hl
  obtain ⟨l, hl⟩ : ∃ l : Nat, (S 15 x.toNatClampNeg 3).toInt = l := ⟨(S 15 x.toNatClampNeg 3).toInt.toNat, by omega⟩
  have hpc := nI_clamp (n := p) (by omega)
  obtain ⟨A1, r1, r2, r3, r4⟩ := rem_v (S := S) (G := G) (U := A 17 x.toNatClampNeg) (p := p) (z0 := z0) (x1 := z0) (x2 := nI p) (b := x.toNatClampNeg) hl (by omega) (l - p) 7 A p (by omega) (by omega) (Nat.le_refl _) (fun k hk => by rw [if_neg (fun z => by omega)])
  rw [gz_p p (Nat.le_refl _)] at r1
  obtain ⟨A2, B2, v, q1, q2, q3, q4, q5, q6⟩ := drop_v (S := S) (T := T) (G := G) (G1 := G1) (x := x) (U := A 17 x.toNatClampNeg) (E := A 16 x.toNatClampNeg) (p := p) (l := l) (z0 := z0) (n0 := z0) (x3 := x3) hl (by omega) hz (fun k hk => (lU k (by omega)).2.2) (fun a c hac hc => lE a c hac (by omega)) (fun k hk => hm k (by omega)) l 7 A1 B 0 0 (by omega) (by omega) (Nat.le_refl _) e36
    (fun k _ hk => ⟨r3 k, r4 k hk, (lU k (by omega)).2.1, (lU k (by omega)).1⟩) (fun k hk => by omega) (fun a c _ hc => by omega) (fun a c ha => by omega)
  refine ⟨A2, B2, v, ?_, q2, fA_t r2 q3, q4, q5, q6⟩
  unfold O0_remove
  rw [hpc, r1]
  exact q1
end LOTS
