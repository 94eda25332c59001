/-! lots -/
theorem nIm1 {m : Nat} (h : m < 1000) : (nI m + -1).toInt = (m : Int) - 1 := by
  have e := nI_toInt (n := m) (by omega)
  have hm1 : (-1 : Int32).toInt = -1 := by decide
  rw [add_i (by rw [e, hm1]; omega) (by rw [e, hm1]; omega), e, hm1]
  rfl
theorem firstOf_v {T B : sS} {G : sG} {x : Int32} {l now : Int} {p : Nat} (hx : 0 ≤ x.toInt ∧ x.toInt < 64) (hp : fgP l (fun k => B 38 0 (6 * x.toNatClampNeg + k)) now p) (hl : l ≤ 6) (hs : ∀ j k : Nat, j ≤ k → (k : Int) < l → (B 38 0 (6 * x.toNatClampNeg + j)).toInt ≤ (B 38 0 (6 * x.toNatClampNeg + k)).toInt) (hnow : (T 20 0 0).toInt = now) : ∀ (m r : Nat) (z y : Int32), (m : Int) ≤ l → m < r → y.toInt = (m : Int) - 1 → V7_firstOf_11 G x r T B z y = if p < m then B 38 0 (6 * x.toNatClampNeg + p) else z := by
  intro m
  induction m with
  | zero =>
    intro r z y h1 h2 h3
    obtain ⟨r, rfl⟩ : ∃ q, r = q + 1 := ⟨r - 1, by omega⟩
    have h0 : (0 : Int32).toInt = 0 := by decide
    rw [V7_firstOf_11, if_pos (Int32.lt_iff_toInt_lt.mpr (by omega)), if_neg (by omega)]
  | succ m ih =>
    intro r z y h1 h2 h3
    obtain ⟨r, rfl⟩ : ∃ q, r = q + 1 := ⟨r - 1, by omega⟩
    have ey : y = nI m := Int32.toInt_inj.mp (by rw [nI_toInt (by omega)]; omega)
    subst ey
    have e := nI_toInt (n := m) (by omega)
    have ei : (6 * x + nI m).toNatClampNeg = 6 * x.toNatClampNeg + m := ix6 hx.1 (by omega) (by omega)
    have h0 : ¬ nI m < 0 := fun z => by have := Int32.lt_iff_toInt_lt.mp z; rw [e, il0] at this; omega
    rw [V7_firstOf_11, if_neg h0, ei]
    clear ei e h3
    obtain ⟨p1, p2, p3⟩ := hp
    by_cases c : B 38 0 (6 * x.toNatClampNeg + m) ≤ T 20 0 0
    · have c' := le_i c
      rw [if_pos c, ih r z _ (by omega) (by omega) (nIm1 (by omega))]
      have hmp : ¬ p < m + 1 := fun w => by
        have q1 := p3 (by omega)
        have q2 := hs p m (by omega) (by omega)
        have q3 : now < (B 38 0 (6 * x.toNatClampNeg + p)).toInt := q1
        omega
      rw [if_neg (by omega), if_neg hmp]
    · have c' : now < (B 38 0 (6 * x.toNatClampNeg + m)).toInt := by rw [← hnow]; exact nle_i c
      rw [if_neg c, ih r _ _ (by omega) (by omega) (nIm1 (by omega))]
      have hmp : p ≤ m := Nat.not_lt.mp fun w => by
        have q1 : (B 38 0 (6 * x.toNatClampNeg + m)).toInt ≤ now := p2 m w
        omega
      rw [if_pos (show p < m + 1 by omega)]
      by_cases d : p < m
      · rw [if_pos d]
      · rw [if_neg d, show m = p by omega]
