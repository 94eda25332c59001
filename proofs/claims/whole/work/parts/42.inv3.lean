/-! the lots of a bin: sums, the first that is given -/
def sm (U : Nat → Int32) (a : Nat) : Nat → Int
  | 0 => 0
  | m + 1 => (U a).toInt + sm U (a + 1) m
def smg (E U : Nat → Int32) (now : Int) (a : Nat) : Nat → Int
  | 0 => 0
  | m + 1 => (if (E a).toInt ≤ now then 0 else (U a).toInt) + smg E U now (a + 1) m
theorem sm_cg {U V : Nat → Int32} : ∀ (m a : Nat), (∀ k, a ≤ k → k < a + m → U k = V k) → sm U a m = sm V a m := by
  intro m
  induction m with
  | zero => intro a _; rfl
  | succ m ih =>
    intro a h
    unfold sm
    rw [h a (Nat.le_refl _) (by omega), ih (a + 1) (fun k h1 h2 => h k (by omega) (by omega))]
theorem smg_cg {E U E1 U1 : Nat → Int32} {now : Int} : ∀ (m a : Nat), (∀ k, a ≤ k → k < a + m → U k = U1 k ∧ E k = E1 k) → smg E U now a m = smg E1 U1 now a m := by
  intro m
  induction m with
  | zero => intro a _; rfl
  | succ m ih =>
    intro a h
    unfold smg
    rw [(h a (Nat.le_refl _) (by omega)).1, (h a (Nat.le_refl _) (by omega)).2, ih (a + 1) (fun k h1 h2 => h k (by omega) (by omega))]
theorem sm_b {U : Nat → Int32} {l : Int} (hU : ∀ k : Nat, (k : Int) < l → 0 < (U k).toInt ∧ (U k).toInt ≤ 10000) : ∀ (m a : Nat), (a : Int) + m ≤ l → (m : Int) ≤ sm U a m ∧ sm U a m ≤ 10000 * m := by
  intro m
  induction m with
  | zero => intro a _; unfold sm; omega
  | succ m ih =>
    intro a h
    unfold sm
    have h1 := ih (a + 1) (by omega)
    have h2 := hU a (by omega)
    omega
theorem sm_add {U : Nat → Int32} : ∀ (m1 m2 a : Nat), sm U a (m1 + m2) = sm U a m1 + sm U (a + m1) m2 := by
  intro m1
  induction m1 with
  | zero => intro m2 a; rw [Nat.zero_add]; unfold sm; omega
  | succ m1 ih =>
    intro m2 a
    rw [show m1 + 1 + m2 = (m1 + m2) + 1 by omega, sm, sm, ih m2 (a + 1), show a + 1 + m1 = a + (m1 + 1) by omega]
    omega
/-- what the lots are, for the reading of sums -/
def lotU (l : Int) (U : Nat → Int32) : Prop := (0 ≤ l ∧ l ≤ 6) ∧ ∀ k : Nat, (k : Int) < l → 0 < (U k).toInt ∧ (U k).toInt ≤ 10000
theorem sumFrom_v {S A : sS} {G : sG} {b : Nat} {x1 : Int32} (hl : lotU (S 15 b 3).toInt (A 17 b)) : ∀ (m r : Nat) (z : Int32) (j : Nat), (j : Int) + m = (S 15 b 3).toInt → m < r → 0 ≤ z.toInt → z.toInt ≤ 10000 * j → (V0_sumFrom_4 G b x1 r S A z j).toInt = z.toInt + sm (A 17 b) j m := by
  intro m
  induction m with
  | zero =>
    intro r z j h1 h2 h3 h4
    obtain ⟨r, rfl⟩ : ∃ q, r = q + 1 := ⟨r - 1, by omega⟩
    have e := nI_toInt (n := j) (by have := hl.1; omega)
    rw [V0_sumFrom_4, if_pos (Int32.le_iff_toInt_le.mpr (by omega))]
    unfold sm; omega
  | succ m ih =>
    intro r z j h1 h2 h3 h4
    obtain ⟨r, rfl⟩ : ∃ q, r = q + 1 := ⟨r - 1, by omega⟩
    have e := nI_toInt (n := j) (by have := hl.1; omega)
    rw [V0_sumFrom_4, if_neg (fun z => by have := Int32.le_iff_toInt_le.mp z; omega)]
    have hu := hl.2 j (by omega)
    have h6 := hl.1.2
    have ea := add_i (x := z) (y := A 17 b j) (by omega) (by omega)
    rw [ih r _ (j + 1) (by omega) (by omega) (by omega) (by omega), ea, sm]
    omega
theorem bookOf_v {S B : sS} {G : sG} {x : Int32} (hl : lotU (B 36 0 x.toNatClampNeg).toInt (fun k => B 37 0 (6 * x.toNatClampNeg + k))) : ∀ (m r : Nat) (z : Int32) (j : Nat), (j : Int) + m = (B 36 0 x.toNatClampNeg).toInt → m < r → 0 ≤ z.toInt → z.toInt ≤ 10000 * j → (V7_bookOf_4 G x r S B z j).toInt = z.toInt + sm (fun k => B 37 0 (6 * x.toNatClampNeg + k)) j m := by
  intro m
  induction m with
  | zero =>
    intro r z j h1 h2 h3 h4
    obtain ⟨r, rfl⟩ : ∃ q, r = q + 1 := ⟨r - 1, by omega⟩
    have e := nI_toInt (n := j) (by have := hl.1; omega)
    rw [V7_bookOf_4, if_pos (Int32.le_iff_toInt_le.mpr (by omega))]
    unfold sm; omega
  | succ m ih =>
    intro r z j h1 h2 h3 h4
    obtain ⟨r, rfl⟩ : ∃ q, r = q + 1 := ⟨r - 1, by omega⟩
    have e := nI_toInt (n := j) (by have := hl.1; omega)
    rw [V7_bookOf_4, if_neg (fun z => by have := Int32.le_iff_toInt_le.mp z; omega)]
    have hu : 0 < (B 37 0 (6 * x.toNatClampNeg + j)).toInt ∧ (B 37 0 (6 * x.toNatClampNeg + j)).toInt ≤ 10000 := hl.2 j (by omega)
    have h6 := hl.1.2
    have ea := add_i (x := z) (y := B 37 0 (6 * x.toNatClampNeg + j)) (by omega) (by omega)
    rw [ih r _ (j + 1) (by omega) (by omega) (by omega) (by omega), ea, sm]
    omega
theorem givOf_v {S B : sS} {G : sG} {x : Int32} (hl : lotU (B 36 0 x.toNatClampNeg).toInt (fun k => B 37 0 (6 * x.toNatClampNeg + k))) : ∀ (m r : Nat) (z : Int32) (j : Nat), (j : Int) + m = (B 36 0 x.toNatClampNeg).toInt → m < r → 0 ≤ z.toInt → z.toInt ≤ 10000 * j → (V7_givableOf_4 G x r S B z j).toInt = z.toInt + smg (fun k => B 38 0 (6 * x.toNatClampNeg + k)) (fun k => B 37 0 (6 * x.toNatClampNeg + k)) (S 20 0 0).toInt j m := by
  intro m
  induction m with
  | zero =>
    intro r z j h1 h2 h3 h4
    obtain ⟨r, rfl⟩ : ∃ q, r = q + 1 := ⟨r - 1, by omega⟩
    have e := nI_toInt (n := j) (by have := hl.1; omega)
    rw [V7_givableOf_4, if_pos (Int32.le_iff_toInt_le.mpr (by omega))]
    unfold smg; omega
  | succ m ih =>
    intro r z j h1 h2 h3 h4
    obtain ⟨r, rfl⟩ : ∃ q, r = q + 1 := ⟨r - 1, by omega⟩
    have e := nI_toInt (n := j) (by have := hl.1; omega)
    rw [V7_givableOf_4, if_neg (fun z => by have := Int32.le_iff_toInt_le.mp z; omega), smg]
    have hu : 0 < (B 37 0 (6 * x.toNatClampNeg + j)).toInt ∧ (B 37 0 (6 * x.toNatClampNeg + j)).toInt ≤ 10000 := hl.2 j (by omega)
    have h6 := hl.1.2
    have h0 : (0 : Int32).toInt = 0 := by decide
    by_cases c : B 38 0 (6 * x.toNatClampNeg + j) ≤ S 20 0 0
    · rw [if_pos c, if_pos (le_i c)]
      have ea := add_i (x := z) (y := 0) (by omega) (by omega)
      rw [ih r _ (j + 1) (by omega) (by omega) (by omega) (by omega), ea]
      omega
    · rw [if_neg c, if_neg (fun w => c (Int32.le_iff_toInt_le.mpr w))]
      have ea := add_i (x := z) (y := B 37 0 (6 * x.toNatClampNeg + j)) (by omega) (by omega)
      rw [ih r _ (j + 1) (by omega) (by omega) (by omega) (by omega), ea]
      omega
/-- p lots are expired -/
def fgP (l : Int) (E : Nat → Int32) (now : Int) (p : Nat) : Prop := (p : Int) ≤ l ∧ (∀ k : Nat, k < p → (E k).toInt ≤ now) ∧ ((p : Int) < l → now < (E p).toInt)
theorem firstG_v {S A : sS} {G : sG} {b : Nat} {x : Int32} (hl : 0 ≤ (S 15 b 3).toInt ∧ (S 15 b 3).toInt ≤ 6) : ∀ (m r : Nat) (j : Nat), (j : Int) + m = (S 15 b 3).toInt → m < r → (∀ k : Nat, k < j → (A 16 b k).toInt ≤ x.toInt) → ∃ p : Nat, V0_firstGiven_2 G b x r S A j = nI p ∧ fgP (S 15 b 3).toInt (A 16 b) x.toInt p := by
  intro m
  induction m with
  | zero =>
    intro r j h1 h2 h3
    obtain ⟨r, rfl⟩ : ∃ q, r = q + 1 := ⟨r - 1, by omega⟩
    have e := nI_toInt (n := j) (by omega)
    rw [V0_firstGiven_2, if_pos (Int32.le_iff_toInt_le.mpr (by omega))]
    exact ⟨j, rfl, by omega, h3, fun z => by omega⟩
  | succ m ih =>
    intro r j h1 h2 h3
    obtain ⟨r, rfl⟩ : ∃ q, r = q + 1 := ⟨r - 1, by omega⟩
    have e := nI_toInt (n := j) (by omega)
    rw [V0_firstGiven_2, if_neg (fun z => by have := Int32.le_iff_toInt_le.mp z; omega)]
    by_cases c : x < A 16 b j
    · rw [if_pos c]
      exact ⟨j, rfl, by omega, h3, fun _ => lt_i c⟩
    · rw [if_neg c]
      refine ih r (j + 1) (by omega) (by omega) (fun k hk => ?_)
      by_cases z : k = j
      · rw [z]; exact nlt_i c
      · exact h3 k (by omega)
theorem smg_p {E U : Nat → Int32} {l now : Int} {p : Nat} (hp : fgP l E now p) (hs : ∀ j k : Nat, j ≤ k → (k : Int) < l → (E j).toInt ≤ (E k).toInt) : ∀ (m a : Nat), (a : Int) + m = l → smg E U now a m = if a ≤ p then sm U p ((l - p).toNat) else sm U a m := by
  intro m
  induction m with
  | zero =>
    intro a h
    have hq := hp.1
    split
    · rw [show (l - p).toNat = 0 by omega]; rfl
    · rfl
  | succ m ih =>
    intro a h
    rw [smg, ih (a + 1) (by omega)]
    obtain ⟨p1, p2, p3⟩ := hp
    by_cases c : a < p
    · rw [if_pos (p2 a c), if_pos (by omega), if_pos (by omega)]; omega
    · have q1 := p3 (by omega)
      have q2 := hs p a (by omega) (by omega)
      rw [if_neg (show ¬ (E a).toInt ≤ now by omega), if_neg (show ¬ a + 1 ≤ p by omega)]
      by_cases d : a ≤ p
      · have e : a = p := by omega
        subst e
        rw [if_pos d, show (l - (a : Int)).toNat = m + 1 by omega, sm]
      · rw [if_neg d, sm]
theorem firstOf_v {T B : sS} {G : sG} {x : Int32} {l now : Int} {p : Nat} (hx : 0 ≤ x.toInt ∧ x.toInt < 64) (hp : fgP l (fun k => B 38 0 (6 * x.toNatClampNeg + k)) now p) (hl : l ≤ 6) (hs : ∀ j k : Nat, j ≤ k → (k : Int) < l → (B 38 0 (6 * x.toNatClampNeg + j)).toInt ≤ (B 38 0 (6 * x.toNatClampNeg + k)).toInt) (hnow : (T 20 0 0).toInt = now) : ∀ (m r : Nat) (z y : Int32), (m : Int) ≤ l → m < r → y.toInt = (m : Int) - 1 → V7_firstOf_11 G x r T B z y = if p < m then B 38 0 (6 * x.toNatClampNeg + p) else z := by
  intro m
  induction m with
  | zero =>
    intro r z y h1 h2 h3
    obtain ⟨r, rfl⟩ : ∃ q, r = q + 1 := ⟨r - 1, by omega⟩
    have h0 : (0 : Int32).toInt = 0 := by decide
    rw [V7_firstOf_11, if_pos (Int32.lt_iff_toInt_lt.mpr (by omega)), if_neg (by omega)]
  | succ m ih =>
    intro r z y h1 h2 h3
    obtain ⟨r, rfl⟩ : ∃ q, r = q + 1 := ⟨r - 1, by omega⟩
    have h0 : (0 : Int32).toInt = 0 := by decide
    have hm1 : (-1 : Int32).toInt = -1 := by decide
    have e6 := mul6_i (x := x) hx.1 (by omega)
    have ea := add_i (x := 6 * x) (y := y) (by omega) (by omega)
    have ec := cl_i (x := 6 * x + y) (by omega)
    have ex := cl_i hx.1
    have ei : (6 * x + y).toNatClampNeg = 6 * x.toNatClampNeg + m := by omega
    have ed := add_i (x := y) (y := -1) (by omega) (by omega)
    rw [V7_firstOf_11, if_neg (fun z => by have := Int32.lt_iff_toInt_lt.mp z; omega), ei]
    obtain ⟨p1, p2, p3⟩ := hp
    by_cases c : B 38 0 (6 * x.toNatClampNeg + m) ≤ T 20 0 0
    · have c' := le_i c
      rw [if_pos c, ih r z _ (by omega) (by omega) (by omega)]
      have hmp : ¬ p < m + 1 := fun w => by
        have q1 := p3 (by omega)
        have q2 := hs p m (by omega) (by omega)
        have q3 : now < (B 38 0 (6 * x.toNatClampNeg + p)).toInt := q1
        omega
      rw [if_neg (by omega), if_neg hmp]
    · have c' : now < (B 38 0 (6 * x.toNatClampNeg + m)).toInt := by rw [← hnow]; exact nle_i c
      rw [if_neg c, ih r _ _ (by omega) (by omega) (by omega)]
      have hmp : p ≤ m := Nat.not_lt.mp fun w => by
        have q1 : (B 38 0 (6 * x.toNatClampNeg + m)).toInt ≤ now := p2 m w
        omega
      rw [if_pos (show p < m + 1 by omega)]
      by_cases d : p < m
      · rw [if_pos d]
      · rw [if_neg d, show m = p by omega]
section BINS
variable {n : Nat} {S A : sS} {G : sG} {T B : sS} {G1 : sG}
/-- all that is to be known of a bin's sums -/
theorem bin_v (h : rR n S A G T B) {x : Int32} (hx : 0 ≤ x.toInt ∧ x.toInt < 64) : ∃ (l p : Nat), (S 15 x.toNatClampNeg 3).toInt = l ∧ l ≤ 6 ∧ p ≤ l ∧ V0_firstGiven S A G x.toNatClampNeg (S 0 0 8) = nI p ∧ fgP (S 15 x.toNatClampNeg 3).toInt (A 16 x.toNatClampNeg) (S 0 0 8).toInt p ∧ (V0_book S A G x.toNatClampNeg).toInt = sm (A 17 x.toNatClampNeg) 0 l ∧ V7_bookOf T B G1 x = V0_book S A G x.toNatClampNeg ∧ (V0_given S A G x.toNatClampNeg (S 0 0 8)).toInt = sm (A 17 x.toNatClampNeg) p (l - p) ∧ V7_givableOf T B G1 x = V0_given S A G x.toNatClampNeg (S 0 0 8) ∧ ((0 ≤ sm (A 17 x.toNatClampNeg) 0 l ∧ sm (A 17 x.toNatClampNeg) 0 l ≤ 60000) ∧ (0 ≤ sm (A 17 x.toNatClampNeg) p (l - p) ∧ sm (A 17 x.toNatClampNeg) p (l - p) ≤ 60000)) ∧ ((sm (A 17 x.toNatClampNeg) p (l - p) ≤ 0) ↔ l ≤ p) ∧ ((sm (A 17 x.toNatClampNeg) 0 l ≤ sm (A 17 x.toNatClampNeg) p (l - p)) ↔ p = 0) ∧ (p < l → V7_firstOf T B G1 x = A 16 x.toNatClampNeg p) := by
  obtain ⟨-, e36, -, -, -, ⟨l0, l6⟩, lU, lE⟩ := h.2.2.2.1 x.toNatClampNeg (cl_lt hx.1 hx.2)
  have hlu : lotU (S 15 x.toNatClampNeg 3).toInt (A 17 x.toNatClampNeg) := ⟨⟨l0, l6⟩, fun k hk => (lU k hk).2.2⟩
  have hlb : lotU (B 36 0 x.toNatClampNeg).toInt (fun k => B 37 0 (6 * x.toNatClampNeg + k)) := by
    rw [e36]
    refine ⟨⟨l0, l6⟩, fun k hk => ?_⟩
    show 0 < (B 37 0 (6 * x.toNatClampNeg + k)).toInt ∧ _
    have := lU k hk
    rw [show B 37 0 (6 * x.toNatClampNeg + k) = A 17 x.toNatClampNeg k from this.1]
    exact this.2.2
  obtain ⟨l, hl⟩ : ∃ l : Nat, (S 15 x.toNatClampNeg 3).toInt = l := ⟨(S 15 x.toNatClampNeg 3).toInt.toNat, by omega⟩
  have hlu' := hlu.2
  have h0 : (0 : Int32).toInt = 0 := by decide
  obtain ⟨p, hp, hfg⟩ := firstG_v (S := S) (A := A) (G := G) (b := x.toNatClampNeg) (x := S 0 0 8) ⟨l0, l6⟩ l 7 0 (by omega) (by omega) (fun k hk => by omega)
  have hfg' := hfg
  obtain ⟨f1, f2, f3⟩ := hfg
  have b1 := sumFrom_v (G := G) (x1 := 0) hlu l 7 0 0 (by omega) (by omega) (by omega) (by omega)
  have b2 := bookOf_v (S := T) (G := G1) hlb l 7 0 0 (by rw [e36]; omega) (by omega) (by omega) (by omega)
  have b3 := givOf_v (S := T) (G := G1) hlb l 7 0 0 (by rw [e36]; omega) (by omega) (by omega) (by omega)
  have b4 := sumFrom_v (G := G) (x1 := nI p) hlu (l - p) 7 0 p (by omega) (by omega) (by omega) (by omega)
  have c1 : sm (fun k => B 37 0 (6 * x.toNatClampNeg + k)) 0 l = sm (A 17 x.toNatClampNeg) 0 l := sm_cg l 0 (fun k _ hk => (lU k (by omega)).1)
  have c2 : smg (fun k => B 38 0 (6 * x.toNatClampNeg + k)) (fun k => B 37 0 (6 * x.toNatClampNeg + k)) (T 20 0 0).toInt 0 l = smg (A 16 x.toNatClampNeg) (A 17 x.toNatClampNeg) (S 0 0 8).toInt 0 l := by
    rw [h.1.1]
    exact smg_cg l 0 (fun k _ hk => ⟨(lU k (by omega)).1, (lU k (by omega)).2.1⟩)
  have c3 := smg_p (U := A 17 x.toNatClampNeg) hfg' lE l 0 (by omega)
  rw [if_pos (Nat.zero_le _), hl, show ((l : Int) - p).toNat = l - p by omega] at c3
  have hbk : V0_book S A G x.toNatClampNeg = V0_sumFrom_4 G x.toNatClampNeg 0 7 S A 0 0 := rfl
  have hgv : V0_given S A G x.toNatClampNeg (S 0 0 8) = V0_sumFrom_4 G x.toNatClampNeg (nI p) 7 S A 0 p := by
    unfold V0_given V0_sumFrom
    rw [show V0_firstGiven S A G x.toNatClampNeg (S 0 0 8) = nI p from hp, nI_clamp (by omega)]
  have s1 := sm_b hlu' l 0 (by omega)
  have s2 := sm_b hlu' (l - p) p (by omega)
  have s3 := sm_b hlu' p 0 (by omega)
  have s4 := sm_add (U := A 17 x.toNatClampNeg) p (l - p) 0
  rw [show p + (l - p) = l by omega, Nat.zero_add] at s4
  refine ⟨l, p, hl, by omega, by omega, hp, hfg', by rw [hbk, b1]; omega, ?_, by rw [hgv, b4]; omega, ?_, ⟨by omega, by omega⟩, by omega, by omega, fun hpl => ?_⟩
  · refine Int32.toInt_inj.mp ?_
    rw [hbk, b1, show V7_bookOf T B G1 x = V7_bookOf_4 G1 x 7 T B 0 0 from rfl, b2, c1]
  · refine Int32.toInt_inj.mp ?_
    rw [hgv, b4, show V7_givableOf T B G1 x = V7_givableOf_4 G1 x 7 T B 0 0 from rfl, b3, c2, c3]
  · have hfb : fgP (l : Int) (fun k => B 38 0 (6 * x.toNatClampNeg + k)) (S 0 0 8).toInt p := by
      refine ⟨by omega, fun k hk => ?_, fun hk => ?_⟩
      · show (B 38 0 (6 * x.toNatClampNeg + k)).toInt ≤ _
        rw [show B 38 0 (6 * x.toNatClampNeg + k) = A 16 x.toNatClampNeg k from (lU k (by omega)).2.1]
        exact f2 k hk
      · show _ < (B 38 0 (6 * x.toNatClampNeg + p)).toInt
        rw [show B 38 0 (6 * x.toNatClampNeg + p) = A 16 x.toNatClampNeg p from (lU p (by omega)).2.1]
        exact f3 (by omega)
    have e1 := sub1_i (x := B 36 0 x.toNatClampNeg) (by rw [e36]; omega)
    have r := firstOf_v (T := T) (G := G1) hx hfb (by omega) (fun j k hjk hk => by
      rw [show B 38 0 (6 * x.toNatClampNeg + k) = A 16 x.toNatClampNeg k from (lU k (by omega)).2.1, show B 38 0 (6 * x.toNatClampNeg + j) = A 16 x.toNatClampNeg j from (lU j (by omega)).2.1]
      exact lE j k hjk (by omega)) (by rw [h.1.1]) l 7 0 (B 36 0 x.toNatClampNeg - 1) (by omega) (by omega) (by rw [e1, e36]; omega)
    rw [show V7_firstOf T B G1 x = V7_firstOf_11 G1 x 7 T B 0 (B 36 0 x.toNatClampNeg - 1) from rfl, r, if_pos hpl]
    exact (lU p (by omega)).2.1
end BINS
