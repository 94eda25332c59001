/-! the calls that only tell -/
theorem n10 : ¬ (1 : Int32) = 0 := by decide
theorem lock_0 {S A : sS} {G : sG} {u : Nat} {x : Int32} : V5_isLocked S A G u x = 0 ↔ S 12 u 3 ≤ x := by
  unfold V5_isLocked
  by_cases c : S 12 u 3 ≤ x
  · rw [if_pos c]; exact ⟨fun _ => c, fun _ => rfl⟩
  · rw [if_neg c]; exact ⟨fun z => absurd z n10, fun z => absurd z c⟩
theorem lt0 {j : Nat} {N : Int32} {K : Nat} (hN : N.toInt = K) (hK : K < 2 ^ 31) (h : j < K) : ¬ N ≤ nI j := fun z => by
  have := Int32.le_iff_toInt_le.mp z
  rw [hN, nI_toInt (by omega)] at this
  omega
theorem ge0 {j : Nat} {N : Int32} {K : Nat} (hN : N.toInt = K) (hK : K < 2 ^ 31) (h : j = K) : N ≤ nI j := by
  refine Int32.le_iff_toInt_le.mpr ?_
  rw [hN, nI_toInt (by omega)]
  omega
theorem wat_v {T : sS} (w : ¬ wat T = -1) : wat T = T 20 0 8 := by
  unfold wat at w ⊢
  by_cases c1 : T 20 0 6 < 0
  · exact absurd (if_pos c1) w
  by_cases c2 : T 20 0 8 < 0
  · exact absurd ((if_neg c1).trans (if_pos c2)) w
  by_cases c3 : T 20 0 9 ≤ T 20 0 0
  · exact absurd ((if_neg c1).trans ((if_neg c2).trans (if_pos c3))) w
  rw [if_neg c1, if_neg c2, if_neg c3]
section PURE
variable {n : Nat} {S A : sS} {G : sG} {T B : sS} {G1 : sG}
theorem pv_mismatch (h : rR n S A G T B) (x1 : Int32) : V6_mismatch S A G x1 = V7_mismatch T B G1 x1 := by
  obtain ⟨m1, m2, m3⟩ := h.2.2.2.2.2.2.2.2
  unfold V6_mismatch V7_mismatch
  rw [m1]
  have e := sub1_i (x := S 0 0 14) (by omega)
  by_cases c1 : x1 < 0
  · rw [if_pos c1, if_pos (in0.mpr (Or.inl c1))]
  · by_cases c2 : S 0 0 14 ≤ x1
    · rw [if_neg c1, if_pos c2, if_pos (in0.mpr (Or.inr (by simp only [Int32.lt_iff_toInt_lt, Int32.le_iff_toInt_le, ← Int32.toInt_inj, il0, il1, il2, il3, il4, il5, il6, il15, il16, il31, il32, il40, il60, il63, il64, il120, il290, il300, il1000, il10000, il100000, ln1, ln2, ln3, ln4, ln5, ln6, ln7, ln8, ln9, ln10] at *; omega)))]
    · rw [if_neg c1, if_neg c2, if_neg (fun z => (in0.mp z).elim c1 (fun z => c2 (by simp only [Int32.lt_iff_toInt_lt, Int32.le_iff_toInt_le, ← Int32.toInt_inj, il0, il1, il2, il3, il4, il5, il6, il15, il16, il31, il32, il40, il60, il63, il64, il120, il290, il300, il1000, il10000, il100000, ln1, ln2, ln3, ln4, ln5, ln6, ln7, ln8, ln9, ln10] at *; omega)))]
      have hx : 0 ≤ x1.toInt := by simp only [Int32.lt_iff_toInt_lt, Int32.le_iff_toInt_le, ← Int32.toInt_inj, il0, il1, il2, il3, il4, il5, il6, il15, il16, il31, il32, il40, il60, il63, il64, il120, il290, il300, il1000, il10000, il100000, ln1, ln2, ln3, ln4, ln5, ln6, ln7, ln8, ln9, ln10] at c1; omega
      have hy : x1.toInt < (S 0 0 14).toInt := by simp only [Int32.lt_iff_toInt_lt, Int32.le_iff_toInt_le, ← Int32.toInt_inj, il0, il1, il2, il3, il4, il5, il6, il15, il16, il31, il32, il40, il60, il63, il64, il120, il290, il300, il1000, il10000, il100000, ln1, ln2, ln3, ln4, ln5, ln6, ln7, ln8, ln9, ln10] at c2; omega
      exact m3 _ (by have := cl_i hx; omega)
theorem pv_told (h : rR n S A G T B) (x1 : Int32) : V6_told S A G x1 = V7_told T B G1 x1 := by
  have hw := wat_0 (G1 := G1) h
  have ha := act_ge h
  obtain ⟨t1, -, t3, -, -, -, t7⟩ := h.1
  obtain ⟨s1, s2, s3, s4, s5⟩ := h.2.2.2.2.2.1
  have sz := h.2.2.2.2.2.2.2.1.1
  unfold V6_told V7_told
  by_cases c0 : x1 = 0
  · simp only [if_pos c0]; exact t1.symm
  by_cases c1 : x1 = 1
  · simp only [if_neg c0, if_pos c1]; exact t3.symm
  by_cases c2 : x1 = 2
  · simp only [if_neg c0, if_neg c1, if_pos c2]
    by_cases w : S 0 0 11 = -1
    · rw [w, if_pos (hw.mpr w)]
    · rw [if_neg (fun z => w (hw.mp z))]
      rw [t7] at w ⊢
      exact wat_v w
  by_cases c3 : x1 = 3
  · simp only [if_neg c0, if_neg c1, if_neg c2, if_pos c3]; exact s1.symm
  by_cases c4 : x1 = 4
  · simp only [if_neg c0, if_neg c1, if_neg c2, if_neg c3, if_pos c4]
    by_cases a : S 5 0 0 = -1
    · rw [if_neg (fun z => (ha.mp z) a)]; exact (s4 a).1
    · rw [if_pos (ha.mpr a)]; exact (s5 a).1.symm
  by_cases c5 : x1 = 5
  · simp only [if_neg c0, if_neg c1, if_neg c2, if_neg c3, if_neg c4, if_pos c5]
    by_cases a : S 5 0 0 = -1
    · rw [if_neg (fun z => (ha.mp z) a), if_pos (opn.mpr a)]
    · obtain ⟨-, -, -, -, -, -, q1, q2, -⟩ := s5 a
      rw [if_neg (fun z => a (opn.mp z)), if_pos (ha.mpr a)]
      by_cases d : T 20 0 32 = 0
      · obtain ⟨q, -⟩ := q1 d
        by_cases m : S 5 0 4 = 0
        · rw [if_pos m, if_pos (q.mp m)]
        · rw [if_neg m, if_neg (fun z => m (q.mpr z)), if_pos d]
      · obtain ⟨q, -⟩ := q2 d
        rw [if_pos q, if_neg d]
        by_cases m : T 20 0 31 = 0
        · rw [if_pos m]
        · rw [if_neg m]
  simp only [if_neg c0, if_neg c1, if_neg c2, if_neg c3, if_neg c4, if_neg c5]
  by_cases c6 : x1 = 6
  · simp only [if_pos c6]; exact sz.symm
  · simp only [if_neg c6]
theorem idx6 {x1 x2 : Int32} (a0 : 0 ≤ x1.toInt) (a1 : x1.toInt < 1000) (b0 : 0 ≤ x2.toInt) (b1 : x2.toInt < 1000) : (6 * x1 + x2).toNatClampNeg = 6 * x1.toNatClampNeg + x2.toNatClampNeg := by
  have e := nI_cl b0
  have := cl_i b0
  conv => lhs; rw [e]
  exact ix6 a0 a1 (by omega)
theorem whole_0 {S A : sS} {G : sG} : V2_wholeCopies S A G = 0 ↔ (¬ A 9 0 0 = 0 ∧ ¬ A 9 0 1 = 0) := by
  unfold V2_wholeCopies
  by_cases c1 : A 9 0 0 = 0
  · rw [if_pos c1]
    by_cases c2 : A 9 0 1 = 0
    · rw [if_pos c2]; exact ⟨fun z => absurd z (by decide), fun z => absurd c1 z.1⟩
    · rw [if_neg c2]; exact ⟨fun z => absurd z (by decide), fun z => absurd c1 z.1⟩
  · rw [if_neg c1]
    by_cases c2 : A 9 0 1 = 0
    · rw [if_pos c2]; exact ⟨fun z => absurd z (by decide), fun z => absurd c2 z.2⟩
    · rw [if_neg c2]; exact ⟨fun _ => ⟨c1, c2⟩, fun _ => rfl⟩
/-- what the class reads of its ledger, where a copy is whole -/
theorem read_v (h : rR n S A G T B) (w : ¬ V2_wholeCopies S A G = 0) {x1 x2 : Int32} (a0 : 0 ≤ x1.toInt) (a1 : x1.toInt < (S 6 0 1).toInt) (b0 : 0 ≤ x2.toInt) (b1 : x2.toInt < 6) : V2_read S A G x1 x2 = B 56 0 (6 * x1.toNatClampNeg + x2.toNatClampNeg) := by
  obtain ⟨l1, l2, l3, l4, -⟩ := h.2.2.2.2.2.2.2.1
  unfold V2_read
  rw [idx6 a0 (by omega) b0 (by omega)]
  have e1 := cl_i a0
  have e2 := cl_i b0
  by_cases c1 : A 9 0 0 = 0
  · rw [if_pos c1]
    exact l4 0 (by decide) c1 _ (by omega)
  · rw [if_neg c1]
    have c2 : A 9 0 1 = 0 := Classical.byContradiction fun z => w (whole_0.mpr ⟨c1, z⟩)
    exact l4 1 (by decide) c2 _ (by omega)
theorem pv_entry (h : rR n S A G T B) (x1 x2 : Int32) : V6_entry S A G x1 x2 = V7_entry T B G1 x1 x2 := by
  have hwh := whole_eq (G1 := G1) h
  obtain ⟨l1, l2, -⟩ := h.2.2.2.2.2.2.2.1
  unfold V6_entry V7_entry
  rw [← hwh, l1]
  have e := sub1_i (x := S 6 0 1) (by omega)
  by_cases c1 : x1 < 0
  · rw [if_pos c1, if_pos (in0.mpr (Or.inl c1))]
  by_cases c2 : S 6 0 1 ≤ x1
  · rw [if_neg c1, if_pos c2, if_pos (in0.mpr (Or.inr (by simp only [Int32.lt_iff_toInt_lt, Int32.le_iff_toInt_le, ← Int32.toInt_inj, il0, il1, il2, il3, il4, il5, il6, il15, il16, il31, il32, il40, il60, il63, il64, il120, il290, il300, il1000, il10000, il100000, ln1, ln2, ln3, ln4, ln5, ln6, ln7, ln8, ln9, ln10] at *; omega)))]
  rw [if_neg c1, if_neg c2, if_neg (fun z => (in0.mp z).elim c1 (fun z => c2 (by simp only [Int32.lt_iff_toInt_lt, Int32.le_iff_toInt_le, ← Int32.toInt_inj, il0, il1, il2, il3, il4, il5, il6, il15, il16, il31, il32, il40, il60, il63, il64, il120, il290, il300, il1000, il10000, il100000, ln1, ln2, ln3, ln4, ln5, ln6, ln7, ln8, ln9, ln10] at *; omega)))]
  by_cases c3 : x2 < 0
  · rw [if_pos c3, if_pos (in0.mpr (Or.inl c3))]
  by_cases c4 : x2 < 6
  · rw [if_neg c3, if_pos c4, if_neg (fun z => (in0.mp z).elim c3 (fun z => by simp only [Int32.lt_iff_toInt_lt, Int32.le_iff_toInt_le, ← Int32.toInt_inj, il0, il1, il2, il3, il4, il5, il6, il15, il16, il31, il32, il40, il60, il63, il64, il120, il290, il300, il1000, il10000, il100000, ln1, ln2, ln3, ln4, ln5, ln6, ln7, ln8, ln9, ln10] at z c4; omega))]
    by_cases w : V2_wholeCopies S A G = 0
    · rw [if_pos w, if_pos w]
    · rw [if_neg w, if_neg w]
      have a0 : 0 ≤ x1.toInt := by simp only [Int32.lt_iff_toInt_lt, Int32.le_iff_toInt_le, ← Int32.toInt_inj, il0, il1, il2, il3, il4, il5, il6, il15, il16, il31, il32, il40, il60, il63, il64, il120, il290, il300, il1000, il10000, il100000, ln1, ln2, ln3, ln4, ln5, ln6, ln7, ln8, ln9, ln10] at c1; omega
      have a1 : x1.toInt < (S 6 0 1).toInt := by simp only [Int32.lt_iff_toInt_lt, Int32.le_iff_toInt_le, ← Int32.toInt_inj, il0, il1, il2, il3, il4, il5, il6, il15, il16, il31, il32, il40, il60, il63, il64, il120, il290, il300, il1000, il10000, il100000, ln1, ln2, ln3, ln4, ln5, ln6, ln7, ln8, ln9, ln10] at c2; omega
      have b0 : 0 ≤ x2.toInt := by simp only [Int32.lt_iff_toInt_lt, Int32.le_iff_toInt_le, ← Int32.toInt_inj, il0, il1, il2, il3, il4, il5, il6, il15, il16, il31, il32, il40, il60, il63, il64, il120, il290, il300, il1000, il10000, il100000, ln1, ln2, ln3, ln4, ln5, ln6, ln7, ln8, ln9, ln10] at c3; omega
      have b1 : x2.toInt < 6 := by simp only [Int32.lt_iff_toInt_lt, Int32.le_iff_toInt_le, ← Int32.toInt_inj, il0, il1, il2, il3, il4, il5, il6, il15, il16, il31, il32, il40, il60, il63, il64, il120, il290, il300, il1000, il10000, il100000, ln1, ln2, ln3, ln4, ln5, ln6, ln7, ln8, ln9, ln10] at c4; omega
      rw [read_v h w a0 a1 b0 b1, idx6 a0 (by omega) b0 (by omega)]
  · rw [if_neg c3, if_neg c4, if_pos (in0.mpr (Or.inr (by simp only [Int32.lt_iff_toInt_lt, Int32.le_iff_toInt_le, ← Int32.toInt_inj, il0, il1, il2, il3, il4, il5, il6, il15, il16, il31, il32, il40, il60, il63, il64, il120, il290, il300, il1000, il10000, il100000, ln1, ln2, ln3, ln4, ln5, ln6, ln7, ln8, ln9, ln10] at c4 ⊢; omega)))]
theorem pv_orderTold (h : rR n S A G T B) (x1 x2 : Int32) : V6_orderTold S A G x1 x2 = V7_orderTold T B G1 x1 x2 := by
  have ho := isOrder_eq (G1 := G1) h x1
  unfold V6_orderTold V7_orderTold
  rw [← ho]
  by_cases c1 : V6_isOrder S A G x1 = 0
  · rw [if_pos c1, if_pos c1]
  rw [if_neg c1, if_neg c1]
  have hx := isOrder_r c1
  obtain ⟨-, e1, -, -, -, e2, -⟩ := ord_at h hx
  by_cases d0 : x2 = 0
  · rw [if_pos d0, if_neg (fun z => absurd (in0.mp z) (by rw [d0]; decide)), if_pos d0]; exact e1.symm
  by_cases d1 : x2 = 1
  · rw [if_neg d0, if_pos d1, if_neg (fun z => absurd (in0.mp z) (by rw [d1]; decide)), if_neg d0, if_pos d1]; exact e2.symm
  by_cases d2 : x2 = 2
  · rw [if_neg d0, if_neg d1, if_pos d2, if_neg (fun z => absurd (in0.mp z) (by rw [d2]; decide)), if_neg d0, if_neg d1, oopn (G1 := G1) h hx]
  · rw [if_neg d0, if_neg d1, if_neg d2]
    have : x2 < 0 ∨ 2 < x2 := by simp only [Int32.lt_iff_toInt_lt, Int32.le_iff_toInt_le, ← Int32.toInt_inj, il0, il1, il2, il3, il4, il5, il6, il15, il16, il31, il32, il40, il60, il63, il64, il120, il290, il300, il1000, il10000, il100000, ln1, ln2, ln3, ln4, ln5, ln6, ln7, ln8, ln9, ln10] at d0 d1 d2 ⊢; omega
    rw [if_pos (in0.mpr this)]
theorem pv_lot (h : rR n S A G T B) (x1 x2 x3 : Int32) : V6_lot S A G x1 x2 x3 = V7_lot T B G1 x1 x2 x3 := by
  have hb := isBin_eq (S := S) (A := A) (G := G) (T := T) (B := B) (G1 := G1) x1
  unfold V6_lot V7_lot
  rw [← hb]
  by_cases c1 : V6_isBin S A G x1 = 0
  · rw [if_pos c1, if_pos c1]
  rw [if_neg c1, if_neg c1]
  have hx := isBin_r c1
  obtain ⟨-, e36, -, -, -, ⟨l0, l6⟩, lU, lE⟩ := h.2.2.2.1 x1.toNatClampNeg (cl_lt hx.1 hx.2)
  rw [e36]
  have e := sub1_i (x := S 15 x1.toNatClampNeg 3) (by omega)
  by_cases c2 : x2 < 0
  · rw [if_pos c2, if_pos (in0.mpr (Or.inl c2))]
  by_cases c3 : x2 < S 15 x1.toNatClampNeg 3
  · rw [if_neg c2, if_pos c3, if_neg (fun z => (in0.mp z).elim c2 (fun z => by simp only [Int32.lt_iff_toInt_lt, Int32.le_iff_toInt_le, ← Int32.toInt_inj, il0, il1, il2, il3, il4, il5, il6, il15, il16, il31, il32, il40, il60, il63, il64, il120, il290, il300, il1000, il10000, il100000, ln1, ln2, ln3, ln4, ln5, ln6, ln7, ln8, ln9, ln10] at z c3; omega))]
    have b0 : 0 ≤ x2.toInt := by simp only [Int32.lt_iff_toInt_lt, Int32.le_iff_toInt_le, ← Int32.toInt_inj, il0, il1, il2, il3, il4, il5, il6, il15, il16, il31, il32, il40, il60, il63, il64, il120, il290, il300, il1000, il10000, il100000, ln1, ln2, ln3, ln4, ln5, ln6, ln7, ln8, ln9, ln10] at c2; omega
    have b1 : x2.toInt < (S 15 x1.toNatClampNeg 3).toInt := by simp only [Int32.lt_iff_toInt_lt, Int32.le_iff_toInt_le, ← Int32.toInt_inj, il0, il1, il2, il3, il4, il5, il6, il15, il16, il31, il32, il40, il60, il63, il64, il120, il290, il300, il1000, il10000, il100000, ln1, ln2, ln3, ln4, ln5, ln6, ln7, ln8, ln9, ln10] at c3; omega
    have e2 := cl_i b0
    rw [idx6 hx.1 (by omega) b0 (by omega)]
    have q := lU x2.toNatClampNeg (by omega)
    by_cases d : x3 = 0
    · rw [if_pos d, if_pos d]; exact q.1.symm
    · rw [if_neg d, if_neg d]; exact q.2.1.symm
  · rw [if_neg c2, if_neg c3, if_pos (in0.mpr (Or.inr (by simp only [Int32.lt_iff_toInt_lt, Int32.le_iff_toInt_le, ← Int32.toInt_inj, il0, il1, il2, il3, il4, il5, il6, il15, il16, il31, il32, il40, il60, il63, il64, il120, il290, il300, il1000, il10000, il100000, ln1, ln2, ln3, ln4, ln5, ln6, ln7, ln8, ln9, ln10] at c3 ⊢; omega)))]
theorem pv_bin (h : rR n S A G T B) (x1 x2 : Int32) : V6_bin S A G x1 x2 = V7_bin T B G1 x1 x2 := by
  have hb := isBin_eq (S := S) (A := A) (G := G) (T := T) (B := B) (G1 := G1) x1
  unfold V6_bin V7_bin
  rw [← hb]
  by_cases c1 : V6_isBin S A G x1 = 0
  · rw [if_pos c1, if_pos c1]
  rw [if_neg c1, if_neg c1]
  have hx := isBin_r c1
  obtain ⟨e35, e36, e39, -⟩ := h.2.2.2.1 x1.toNatClampNeg (cl_lt hx.1 hx.2)
  obtain ⟨l, p, bk, gv, -, -, -, -, -, w1, v1, w2, v2, -⟩ := bin_v (G1 := G1) h hx
  have hal := act_lt h
  obtain ⟨-, -, -, s4, s5⟩ := h.2.2.2.2.2.1
  by_cases d0 : x2 = 0
  · rw [if_pos d0, if_neg (fun z => absurd (in0.mp z) (by rw [d0]; decide)), if_pos d0]; exact e35.symm
  by_cases d1 : x2 = 1
  · rw [if_neg d0, if_pos d1, if_neg (fun z => absurd (in0.mp z) (by rw [d1]; decide)), if_neg d0, if_pos d1]; exact w1.trans v1.symm
  by_cases d2 : x2 = 2
  · rw [if_neg d0, if_neg d1, if_pos d2, if_neg (fun z => absurd (in0.mp z) (by rw [d2]; decide)), if_neg d0, if_neg d1, if_pos d2]; exact w2.trans v2.symm
  by_cases d3 : x2 = 3
  · rw [if_neg d0, if_neg d1, if_neg d2, if_pos d3, if_neg (fun z => absurd (in0.mp z) (by rw [d3]; decide)), if_neg d0, if_neg d1, if_neg d2, if_pos d3]; exact e39.symm
  by_cases d4 : x2 = 4
  · rw [if_neg d0, if_neg d1, if_neg d2, if_neg d3, if_pos d4, if_neg (fun z => absurd (in0.mp z) (by rw [d4]; decide)), if_neg d0, if_neg d1, if_neg d2, if_neg d3, if_pos d4]; exact e36.symm
  by_cases d5 : x2 = 5
  · rw [if_neg d0, if_neg d1, if_neg d2, if_neg d3, if_neg d4, if_pos d5, if_neg (fun z => absurd (in0.mp z) (by rw [d5]; decide)), if_neg d0, if_neg d1, if_neg d2, if_neg d3, if_neg d4]
    by_cases a : S 5 0 0 = -1
    · have q : ¬ S 5 0 1 = x1 := fun z => by
        rw [(s4 a).1] at z
        rw [← z] at hx
        exact absurd hx.1 (by decide)
      rw [if_neg q, if_pos (hal.mpr a)]
    · rw [if_neg (fun z => a (hal.mp z)), (s5 a).1]
  · rw [if_neg d0, if_neg d1, if_neg d2, if_neg d3, if_neg d4, if_neg d5]
    have : x2 < 0 ∨ 5 < x2 := by simp only [Int32.lt_iff_toInt_lt, Int32.le_iff_toInt_le, ← Int32.toInt_inj, il0, il1, il2, il3, il4, il5, il6, il15, il16, il31, il32, il40, il60, il63, il64, il120, il290, il300, il1000, il10000, il100000, ln1, ln2, ln3, ln4, ln5, ln6, ln7, ln8, ln9, ln10] at d0 d1 d2 d3 d4 d5 ⊢; omega
    rw [if_pos (in0.mpr this)]
/-- what can be given of an item -/
theorem given_v (h : rR n S A G T B) (x : Int32) : ∀ (m r : Nat) (z : Int32) (j : Nat), j + m = 64 → m < r → 0 ≤ z.toInt → z.toInt ≤ 60000 * j → V7_stockOf_4 G1 x r T B z j = V6_givenOf_4 G x r S A z j ∧ 0 ≤ (V6_givenOf_4 G x r S A z j).toInt ∧ (V6_givenOf_4 G x r S A z j).toInt ≤ 3840000 := by
  intro m
  induction m with
  | zero =>
    intro r z j h1 h2 h3 h4
    obtain ⟨r, rfl⟩ : ∃ q, r = q + 1 := ⟨r - 1, by omega⟩
    have c : (64 : Int32) ≤ nI j := ge0 (K := 64) (by decide) (by decide) (by omega)
    rw [V7_stockOf_4, V6_givenOf_4, if_pos c, if_pos c]
    exact ⟨rfl, h3, by omega⟩
  | succ m ih =>
    intro r z j h1 h2 h3 h4
    obtain ⟨r, rfl⟩ : ∃ q, r = q + 1 := ⟨r - 1, by omega⟩
    have c : ¬ (64 : Int32) ≤ nI j := lt0 (K := 64) (by decide) (by decide) (by omega)
    have e := nI_toInt (n := j) (by omega)
    have hc := nI_clamp (n := j) (by omega)
    obtain ⟨l, p, bk, gv, -, -, -, -, -, -, -, g1, g2, -, -, ⟨-, g3⟩, -⟩ := bin_v (G1 := G1) h (x := nI j) (by omega)
    rw [hc] at g1
    rw [V7_stockOf_4, V6_givenOf_4, if_neg c, if_neg c, (h.2.2.2.1 j (by omega)).1]
    have ea := add_i (x := z) (y := gv) (by omega) (by omega)
    by_cases d : S 15 j 2 = x
    · rw [if_pos d, if_pos d, g2, g1]
      exact ih r _ (j + 1) (by omega) (by omega) (by omega) (by omega)
    · rw [if_neg d, if_neg d, Int32.add_zero]
      exact ih r z (j + 1) (by omega) (by omega) h3 (by omega)
theorem given_e (h : rR n S A G T B) (x : Int32) : V7_stockOf T B G1 x = V6_givenOf S A G x ∧ 0 ≤ (V6_givenOf S A G x).toInt ∧ (V6_givenOf S A G x).toInt ≤ 3840000 := given_v h x 64 65 0 0 (by omega) (by omega) (by decide) (by decide)
theorem below_v (h : rR n S A G T B) {x : Int32} (hx : 0 ≤ x.toInt ∧ x.toInt < 32 ∧ ¬ G 2 x.toNatClampNeg = none) : V6_belowPar S A G x = (if B 33 0 x.toNatClampNeg ≤ V7_stockOf T B G1 x then 0 else B 33 0 x.toNatClampNeg - V7_stockOf T B G1 x) ∧ (V6_belowPar S A G x ≤ 0 ↔ B 33 0 x.toNatClampNeg ≤ V7_stockOf T B G1 x) := by
  obtain ⟨g1, g2, g3⟩ := given_e (G1 := G1) h x
  obtain ⟨-, -, e33, -, p0, p1⟩ := (h.2.2.1 x.toNatClampNeg (cl_lt hx.1 hx.2.1)).2 hx.2.2
  obtain ⟨gv, hgv⟩ : ∃ v, V6_givenOf S A G x = v := ⟨_, rfl⟩
  unfold V6_belowPar
  rw [hgv] at g1 g2 g3 ⊢
  rw [g1, e33]
  have es := sub_i (x := S 13 x.toNatClampNeg 1) (y := gv) (by omega) (by omega)
  by_cases c : S 13 x.toNatClampNeg 1 ≤ gv
  · have c' : ¬ 0 < S 13 x.toNatClampNeg 1 - gv := by simp only [Int32.lt_iff_toInt_lt, Int32.le_iff_toInt_le, ← Int32.toInt_inj, il0, il1, il2, il3, il4, il5, il6, il15, il16, il31, il32, il40, il60, il63, il64, il120, il290, il300, il1000, il10000, il100000, ln1, ln2, ln3, ln4, ln5, ln6, ln7, ln8, ln9, ln10] at c ⊢; omega
    rw [if_pos c, if_neg c']
    exact ⟨rfl, fun _ => c, fun _ => by decide⟩
  · have c' : 0 < S 13 x.toNatClampNeg 1 - gv := by simp only [Int32.lt_iff_toInt_lt, Int32.le_iff_toInt_le, ← Int32.toInt_inj, il0, il1, il2, il3, il4, il5, il6, il15, il16, il31, il32, il40, il60, il63, il64, il120, il290, il300, il1000, il10000, il100000, ln1, ln2, ln3, ln4, ln5, ln6, ln7, ln8, ln9, ln10] at c ⊢; omega
    rw [if_neg c, if_pos c']
    exact ⟨rfl, fun z => by simp only [Int32.lt_iff_toInt_lt, Int32.le_iff_toInt_le, ← Int32.toInt_inj, il0, il1, il2, il3, il4, il5, il6, il15, il16, il31, il32, il40, il60, il63, il64, il120, il290, il300, il1000, il10000, il100000, ln1, ln2, ln3, ln4, ln5, ln6, ln7, ln8, ln9, ln10] at z c'; omega, fun z => absurd z c⟩
theorem pv_stock (h : rR n S A G T B) (x1 x2 : Int32) : V6_stock S A G x1 x2 = V7_stock T B G1 x1 x2 := by
  have hi := isItem_eq (G1 := G1) h x1
  unfold V6_stock V7_stock
  rw [← hi]
  by_cases c1 : V6_isItem S A G x1 = 0
  · rw [if_pos c1, if_pos c1]
  rw [if_neg c1, if_neg c1]
  have hx := isItem_r c1
  obtain ⟨-, -, -, e34, -⟩ := (h.2.2.1 x1.toNatClampNeg (cl_lt hx.1 hx.2.1)).2 hx.2.2
  obtain ⟨b1, -⟩ := below_v (G1 := G1) h hx
  have g1 := (given_e (G1 := G1) h x1).1
  by_cases d0 : x2 = 0
  · rw [if_pos d0, if_neg (fun z => absurd (in0.mp z) (by rw [d0]; decide)), if_pos d0]; exact g1.symm
  by_cases d1 : x2 = 1
  · rw [if_neg d0, if_pos d1, if_neg (fun z => absurd (in0.mp z) (by rw [d1]; decide)), if_neg d0, if_neg (show ¬ x2 = 2 by rw [d1]; decide), b1]
  by_cases d2 : x2 = 2
  · rw [if_neg d0, if_neg d1, if_pos d2, if_neg (fun z => absurd (in0.mp z) (by rw [d2]; decide)), if_neg d0, if_pos d2]; exact e34.symm
  · rw [if_neg d0, if_neg d1, if_neg d2]
    have : x2 < 0 ∨ 2 < x2 := by simp only [Int32.lt_iff_toInt_lt, Int32.le_iff_toInt_le, ← Int32.toInt_inj, il0, il1, il2, il3, il4, il5, il6, il15, il16, il31, il32, il40, il60, il63, il64, il120, il290, il300, il1000, il10000, il100000, ln1, ln2, ln3, ln4, ln5, ln6, ln7, ln8, ln9, ln10] at d0 d1 d2 ⊢; omega
    rw [if_pos (in0.mpr this)]
theorem wanted_0 (h : rR n S A G T B) {k : Nat} (hk : k < 32) : V7_isWanted T B G1 (nI k) = 0 ↔ (V6_isItem S A G (nI k) = 0 ∨ V6_belowPar S A G (nI k) ≤ 0) := by
  have hc := nI_clamp (n := k) (by omega)
  have e := nI_toInt (n := k) (by omega)
  have hu := h.2.2.1 k hk
  unfold V7_isWanted
  rw [hc]
  by_cases c : G 2 k = none
  · rw [if_pos (hu.1 c).1]
    refine ⟨fun _ => Or.inl (Classical.byContradiction fun z => ?_), fun _ => rfl⟩
    have := (isItem_r z).2.2
    rw [hc] at this
    exact this c
  · rw [if_neg (hu.2 c).1]
    have hx : 0 ≤ (nI k).toInt ∧ (nI k).toInt < 32 ∧ ¬ G 2 (nI k).toNatClampNeg = none := ⟨by omega, by omega, by rw [hc]; exact c⟩
    have hy : ¬ V6_isItem S A G (nI k) = 0 := by rw [isItem_y hx.1 hx.2.1 hx.2.2]; decide
    obtain ⟨-, b2⟩ := below_v (G1 := G1) h hx
    rw [hc] at b2
    by_cases d : B 33 0 k ≤ V7_stockOf T B G1 (nI k)
    · rw [if_pos d]; exact ⟨fun _ => Or.inr (b2.mpr d), fun _ => rfl⟩
    · rw [if_neg d]; exact ⟨fun z => absurd z (by decide), fun z => z.elim (fun z => absurd z hy) (fun z => absurd (b2.mp z) d)⟩
theorem wt_after (x1 : Int32) : ∀ (m r : Nat) (z f : Int32) (j : Nat), j + m = 32 → m < r → x1.toInt < z.toInt → z.toInt ≤ j → V7_wanted_7 G1 x1 r T B z f j = f := by
  intro m
  induction m with
  | zero =>
    intro r z f j h1 h2 h3 h4
    obtain ⟨r, rfl⟩ : ∃ q, r = q + 1 := ⟨r - 1, by omega⟩
    have c : (32 : Int32) ≤ nI j := ge0 (K := 32) (by decide) (by decide) (by omega)
    rw [V7_wanted_7, if_pos c]
  | succ m ih =>
    intro r z f j h1 h2 h3 h4
    obtain ⟨r, rfl⟩ : ∃ q, r = q + 1 := ⟨r - 1, by omega⟩
    have c : ¬ (32 : Int32) ≤ nI j := lt0 (K := 32) (by decide) (by decide) (by omega)
    have i1 := il1
    have i2 := x1.le_toInt
    have ea := add_i (x := z) (y := 1) (by omega) (by omega)
    rw [V7_wanted_7, if_neg c]
    by_cases d : V7_isWanted T B G1 (nI j) = 0
    · rw [if_pos d]; exact ih r z f (j + 1) (by omega) (by omega) h3 (by omega)
    · have d2 : ¬ z = x1 := fun q => by rw [q] at h3; omega
      rw [if_neg d, if_neg d2]
      exact ih r _ f (j + 1) (by omega) (by omega) (by omega) (by omega)
theorem wt_v (h : rR n S A G T B) (x1 : Int32) : ∀ (m r : Nat) (z : Int32) (j : Nat), j + m = 32 → m < r → 0 ≤ z.toInt → z.toInt ≤ j → V6_wanted_4 G x1 r S A z j = V7_wanted_7 G1 x1 r T B z (-1) j := by
  intro m
  induction m with
  | zero =>
    intro r z j h1 h2 h3 h4
    obtain ⟨r, rfl⟩ : ∃ q, r = q + 1 := ⟨r - 1, by omega⟩
    have c : (32 : Int32) ≤ nI j := ge0 (K := 32) (by decide) (by decide) (by omega)
    rw [V7_wanted_7, V6_wanted_4, if_pos c, if_pos c]
  | succ m ih =>
    intro r z j h1 h2 h3 h4
    obtain ⟨r, rfl⟩ : ∃ q, r = q + 1 := ⟨r - 1, by omega⟩
    have c : ¬ (32 : Int32) ≤ nI j := lt0 (K := 32) (by decide) (by decide) (by omega)
    have i1 := il1
    have ea := add_i (x := z) (y := 1) (by omega) (by omega)
    have hw := wanted_0 (G1 := G1) h (k := j) (by omega)
    rw [V7_wanted_7, V6_wanted_4, if_neg c, if_neg c]
    by_cases d : V7_isWanted T B G1 (nI j) = 0
    · rw [if_pos d]
      rcases hw.mp d with q | q
      · rw [if_pos q]; exact ih r z (j + 1) (by omega) (by omega) h3 (by omega)
      · rw [if_pos q]
        by_cases q2 : V6_isItem S A G (nI j) = 0
        · rw [if_pos q2]; exact ih r z (j + 1) (by omega) (by omega) h3 (by omega)
        · rw [if_neg q2]; exact ih r z (j + 1) (by omega) (by omega) h3 (by omega)
    · rw [if_neg d, if_neg (fun q => d (hw.mpr (Or.inl q))), if_neg (fun q => d (hw.mpr (Or.inr q)))]
      by_cases f : z = x1
      · rw [if_pos f, if_pos f]
        refine (wt_after x1 m r _ _ (j + 1) (by omega) (by omega) ?_ (by omega)).symm
        rw [← f]; omega
      · rw [if_neg f, if_neg f]
        exact ih r _ (j + 1) (by omega) (by omega) (by omega) (by omega)
theorem pv_wanted (h : rR n S A G T B) (x1 : Int32) : V6_wanted S A G x1 = V7_wanted T B G1 x1 := wt_v h x1 32 33 0 0 (by omega) (by omega) (by decide) (by decide)
theorem al4_1 : ∀ (m r : Nat) (j : Nat), j + m = 16 → m < r → VV7_alarms_4 T B G1 r 1 j = 1 := by
  intro m
  induction m with
  | zero =>
    intro r j h1 h2
    obtain ⟨r, rfl⟩ : ∃ q, r = q + 1 := ⟨r - 1, by omega⟩
    rw [VV7_alarms_4, if_pos (ge0 (K := 16) (by decide) (by decide) (by omega))]
  | succ m ih =>
    intro r j h1 h2
    obtain ⟨r, rfl⟩ : ∃ q, r = q + 1 := ⟨r - 1, by omega⟩
    rw [VV7_alarms_4, if_neg (lt0 (K := 16) (by decide) (by decide) (by omega)), if_neg n10]
    exact ih r (j + 1) (by omega) (by omega)
theorem al4_v (h : rR n S A G T B) : ∀ (m r : Nat) (j : Nat), j + m = 16 → m < r → VV7_alarms_4 T B G1 r 0 j = V6_isAnyLocked_2 G r S A j := by
  intro m
  induction m with
  | zero =>
    intro r j h1 h2
    obtain ⟨r, rfl⟩ : ∃ q, r = q + 1 := ⟨r - 1, by omega⟩
    have c : (16 : Int32) ≤ nI j := ge0 (K := 16) (by decide) (by decide) (by omega)
    rw [VV7_alarms_4, V6_isAnyLocked_2, if_pos c, if_pos c]
  | succ m ih =>
    intro r j h1 h2
    obtain ⟨r, rfl⟩ : ∃ q, r = q + 1 := ⟨r - 1, by omega⟩
    have c : ¬ (16 : Int32) ≤ nI j := lt0 (K := 16) (by decide) (by decide) (by omega)
    have hc := nI_clamp (n := j) (by omega)
    have e := nI_toInt (n := j) (by omega)
    rw [VV7_alarms_4, V6_isAnyLocked_2, if_neg c, if_neg c, if_pos rfl]
    have hu := h.2.1.2 j (by omega)
    have hq : V6_isUser S A G (nI j) = if G 1 j = none then 0 else 1 := by
      unfold V6_isUser
      rw [if_neg (by simp only [Int32.lt_iff_toInt_lt, Int32.le_iff_toInt_le, ← Int32.toInt_inj, il0, il1, il2, il3, il4, il5, il6, il15, il16, il31, il32, il40, il60, il63, il64, il120, il290, il300, il1000, il10000, il100000, ln1, ln2, ln3, ln4, ln5, ln6, ln7, ln8, ln9, ln10]; omega), if_neg c, hc]
    rw [hq]
    by_cases d : G 1 j = none
    · rw [if_pos d, if_pos rfl, if_pos (hu.1 d).1]
      exact ih r (j + 1) (by omega) (by omega)
    · rw [if_neg d, if_neg n10, if_neg (hu.2 d).1, (hu.2 d).2.2.2.2.1, h.1.1]
      by_cases f : S 12 j 3 ≤ S 0 0 8
      · rw [if_pos f, if_pos (lock_0.mpr f)]
        exact ih r (j + 1) (by omega) (by omega)
      · rw [if_neg f, if_neg (fun z => f (lock_0.mp z))]
        exact al4_1 m r (j + 1) (by omega) (by omega)
theorem al52_1 {y1 : Int32} : ∀ (m r : Nat) (j : Nat), j + m = 32 → m < r → VV7_alarms_52 T B G1 y1 r 1 j = 1 := by
  intro m
  induction m with
  | zero =>
    intro r j h1 h2
    obtain ⟨r, rfl⟩ : ∃ q, r = q + 1 := ⟨r - 1, by omega⟩
    rw [VV7_alarms_52, if_pos (ge0 (K := 32) (by decide) (by decide) (by omega))]
  | succ m ih =>
    intro r j h1 h2
    obtain ⟨r, rfl⟩ : ∃ q, r = q + 1 := ⟨r - 1, by omega⟩
    rw [VV7_alarms_52, if_neg (lt0 (K := 32) (by decide) (by decide) (by omega)), if_neg n10]
    exact ih r (j + 1) (by omega) (by omega)
theorem al52_v (h : rR n S A G T B) {y1 : Int32} : ∀ (m r : Nat) (j : Nat), j + m = 32 → m < r → (VV7_alarms_52 T B G1 y1 r 0 j = 0 ↔ V6_wanted_4 G 0 r S A 0 j = -1) := by
  intro m
  induction m with
  | zero =>
    intro r j h1 h2
    obtain ⟨r, rfl⟩ : ∃ q, r = q + 1 := ⟨r - 1, by omega⟩
    have c : (32 : Int32) ≤ nI j := ge0 (K := 32) (by decide) (by decide) (by omega)
    rw [VV7_alarms_52, V6_wanted_4, if_pos c, if_pos c]
    exact ⟨fun _ => rfl, fun _ => rfl⟩
  | succ m ih =>
    intro r j h1 h2
    obtain ⟨r, rfl⟩ : ∃ q, r = q + 1 := ⟨r - 1, by omega⟩
    have c : ¬ (32 : Int32) ≤ nI j := lt0 (K := 32) (by decide) (by decide) (by omega)
    have e := nI_toInt (n := j) (by omega)
    have hw := wanted_0 (G1 := G1) h (k := j) (by omega)
    rw [VV7_alarms_52, V6_wanted_4, if_neg c, if_neg c, if_pos rfl]
    by_cases d : V7_isWanted T B G1 (nI j) = 0
    · rw [if_pos d]
      by_cases q2 : V6_isItem S A G (nI j) = 0
      · rw [if_pos q2]; exact ih r (j + 1) (by omega) (by omega)
      · rw [if_neg q2, if_pos ((hw.mp d).resolve_left q2)]; exact ih r (j + 1) (by omega) (by omega)
    · rw [if_neg d, if_neg (fun q => d (hw.mpr (Or.inl q))), if_neg (fun q => d (hw.mpr (Or.inr q))), if_pos rfl, al52_1 m r (j + 1) (by omega) (by omega)]
      refine ⟨fun z => absurd z (by decide), fun z => ?_⟩
      rw [z] at e
      rw [ln1] at e
      omega
theorem al87_1 {y1 y2 : Int32} : ∀ (m r : Nat) (j : Nat), j + m = 64 → m < r → VV7_alarms_87 T B G1 y1 y2 r 1 j = 1 := by
  intro m
  induction m with
  | zero =>
    intro r j h1 h2
    obtain ⟨r, rfl⟩ : ∃ q, r = q + 1 := ⟨r - 1, by omega⟩
    rw [VV7_alarms_87, if_pos (ge0 (K := 64) (by decide) (by decide) (by omega))]
  | succ m ih =>
    intro r j h1 h2
    obtain ⟨r, rfl⟩ : ∃ q, r = q + 1 := ⟨r - 1, by omega⟩
    rw [VV7_alarms_87, if_neg (lt0 (K := 64) (by decide) (by decide) (by omega)), if_neg n10]
    exact ih r (j + 1) (by omega) (by omega)
theorem al87_v (h : rR n S A G T B) {y1 y2 : Int32} : ∀ (m r : Nat) (j : Nat), j + m = 64 → m < r → VV7_alarms_87 T B G1 y1 y2 r 0 j = V6_isAnyLotExpired_2 G r S A j := by
  intro m
  induction m with
  | zero =>
    intro r j h1 h2
    obtain ⟨r, rfl⟩ : ∃ q, r = q + 1 := ⟨r - 1, by omega⟩
    have c : (64 : Int32) ≤ nI j := ge0 (K := 64) (by decide) (by decide) (by omega)
    rw [VV7_alarms_87, V6_isAnyLotExpired_2, if_pos c, if_pos c]
  | succ m ih =>
    intro r j h1 h2
    obtain ⟨r, rfl⟩ : ∃ q, r = q + 1 := ⟨r - 1, by omega⟩
    have c : ¬ (64 : Int32) ≤ nI j := lt0 (K := 64) (by decide) (by decide) (by omega)
    have hc := nI_clamp (n := j) (by omega)
    have e := nI_toInt (n := j) (by omega)
    obtain ⟨l, p, bk, gv, g0, g6, gp, gf, -, -, b2, -, g2, -, -, -, -, g4, -⟩ := bin_v (G1 := G1) h (x := nI j) (by omega)
    rw [hc] at gf
    rw [VV7_alarms_87, V6_isAnyLotExpired_2, if_neg c, if_neg c, if_pos rfl, b2, g2, gf]
    have ep := nI_toInt (n := p) (by omega)
    by_cases d : p = 0
    · have q1 : bk ≤ gv := Int32.le_iff_toInt_le.mpr (g4.mpr d)
      have q2 : nI p ≤ 0 := Int32.le_iff_toInt_le.mpr (by rw [ep, il0]; omega)
      rw [if_pos q1, if_pos q2]
      exact ih r (j + 1) (by omega) (by omega)
    · have q1 : ¬ bk ≤ gv := fun z => d (g4.mp (Int32.le_iff_toInt_le.mp z))
      have q2 : ¬ nI p ≤ 0 := fun z => by have := Int32.le_iff_toInt_le.mp z; rw [ep, il0] at this; omega
      rw [if_neg q1, if_neg q2]
      exact al87_1 m r (j + 1) (by omega) (by omega)
theorem pv_alarms (h : rR n S A G T B) : V6_alarms S A G = V7_alarms T B G1 := by
  have e1 : VV7_alarms_4 T B G1 17 0 0 = V6_isAnyLocked S A G := al4_v h 16 17 0 (by omega) (by omega)
  have e2 : ∀ y1, (VV7_alarms_52 T B G1 y1 33 0 0 = 0 ↔ V6_wanted S A G 0 = -1) := fun y1 => al52_v h 32 33 0 (by omega) (by omega)
  have e3 : ∀ y1 y2, VV7_alarms_87 T B G1 y1 y2 65 0 0 = V6_isAnyLotExpired S A G := fun y1 y2 => al87_v h 64 65 0 (by omega) (by omega)
  have e4 := whole_eq (G1 := G1) h
  have e5 := act_lt h
  obtain ⟨s1, s2, s3, s4, s5⟩ := h.2.2.2.2.2.1
  unfold V6_alarms V7_alarms V7_alarms_151 V7_alarms_164 V7_alarms_174 V7_alarms_189 V7_alarms_200 V6_alarms_33 V6_alarms_44 V6_alarms_57 V6_alarms_73 V6_alarms_85
  rw [← e4]
  simp only [e1, e3, h.1.1]
  have e2' := e2 (V6_isAnyLocked S A G)
  have key : (if V4_isOpen S A G = 0 then (0 : Int32) else if S 0 0 8 - S 5 0 3 < 40 then 0 else 1) = (if T 20 0 27 < 0 then 0 else if S 0 0 8 - T 20 0 30 < 40 then 0 else 1) := by
    by_cases a : S 5 0 0 = -1
    · rw [if_pos (opn.mpr a), if_pos (e5.mpr a)]
    · rw [if_neg (fun z => a (opn.mp z)), if_neg (fun z => a (e5.mp z)), (s5 a).2.2.1]
  by_cases c3 : V6_wanted S A G 0 = -1
  · have c3' := e2'.mpr c3
    simp only [if_pos c3, if_pos c3']
    by_cases c1 : V4_isOpen S A G = 0 <;> by_cases c2 : V6_isAnyLocked S A G = 0 <;> by_cases c4 : 2 ≤ V2_wholeCopies S A G <;> by_cases c5 : V6_isAnyLotExpired S A G = 0 <;> by_cases d1 : S 0 0 8 - S 5 0 3 < 40 <;> by_cases d2 : T 20 0 27 < 0 <;> by_cases d3 : S 0 0 8 - T 20 0 30 < 40 <;> simp only [c1, c2, c4, c5, d1, d2, d3, ↓reduceIte] at key ⊢ <;> first | rfl | decide | exact absurd key (by decide)
  · have c3' : ¬ _ := fun z => c3 (e2'.mp z)
    simp only [if_neg c3, if_neg c3']
    by_cases c1 : V4_isOpen S A G = 0 <;> by_cases c2 : V6_isAnyLocked S A G = 0 <;> by_cases c4 : 2 ≤ V2_wholeCopies S A G <;> by_cases c5 : V6_isAnyLotExpired S A G = 0 <;> by_cases d1 : S 0 0 8 - S 5 0 3 < 40 <;> by_cases d2 : T 20 0 27 < 0 <;> by_cases d3 : S 0 0 8 - T 20 0 30 < 40 <;> simp only [c1, c2, c4, c5, d1, d2, d3, ↓reduceIte] at key ⊢ <;> first | rfl | decide | exact absurd key (by decide)
end PURE
