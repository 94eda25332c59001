/-! lots -/
theorem givOf_v {S B : sS} {G : sG} {x : Int32} (hl : lotU (B 36 0 x.toNatClampNeg).toInt (fun k => B 37 0 (6 * x.toNatClampNeg + k))) : ∀ (m r : Nat) (z : Int32) (j : Nat), (j : Int) + m = (B 36 0 x.toNatClampNeg).toInt → m < r → 0 ≤ z.toInt → z.toInt ≤ 10000 * j → (V7_givableOf_4 G x r S B z j).toInt = z.toInt + smg (fun k => B 38 0 (6 * x.toNatClampNeg + k)) (fun k => B 37 0 (6 * x.toNatClampNeg + k)) (S 20 0 0).toInt j m := by
  intro m
  induction m with
  | zero =>
    intro r z j h1 h2 h3 h4
    obtain ⟨r, rfl⟩ : ∃ q, r = q + 1 := ⟨r - 1, by omega⟩
    have e := nI_toInt (n := j) (by have := hl.1; omega)
    rw [V7_givableOf_4, if_pos (Int32.le_iff_toInt_le.mpr (by omega))]
    unfold smg; omega
  | succ m ih =>
    intro r z j h1 h2 h3 h4
    obtain ⟨r, rfl⟩ : ∃ q, r = q + 1 := ⟨r - 1, by omega⟩
    have e := nI_toInt (n := j) (by have := hl.1; omega)
    rw [V7_givableOf_4, if_neg (fun z => by have := Int32.le_iff_toInt_le.mp z; omega), smg]
    have hu : 0 < (B 37 0 (6 * x.toNatClampNeg + j)).toInt ∧ (B 37 0 (6 * x.toNatClampNeg + j)).toInt ≤ 10000 := hl.2 j (by omega)
    have h6 := hl.1.2
    have h0 : (0 : Int32).toInt = 0 := by decide
    by_cases c : B 38 0 (6 * x.toNatClampNeg + j) ≤ S 20 0 0
    · rw [if_pos c, if_pos (le_i c)]
      have ea := add_i (x := z) (y := 0) (by omega) (by omega)
      rw [ih r _ (j + 1) (by omega) (by omega) (by omega) (by omega), ea]
      omega
    · rw [if_neg c, if_neg (fun w => c (Int32.le_iff_toInt_le.mpr w))]
      have ea := add_i (x := z) (y := B 37 0 (6 * x.toNatClampNeg + j)) (by omega) (by omega)
      rw [ih r _ (j + 1) (by omega) (by omega) (by omega) (by omega), ea]
      omega
