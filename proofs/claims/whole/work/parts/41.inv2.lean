/-! words for the conditions: what the one asks and what the other asks -/
theorem il0 : (0 : Int32).toInt = 0 := by decide
theorem il1 : (1 : Int32).toInt = 1 := by decide
theorem il2 : (2 : Int32).toInt = 2 := by decide
theorem il3 : (3 : Int32).toInt = 3 := by decide
theorem il4 : (4 : Int32).toInt = 4 := by decide
theorem il5 : (5 : Int32).toInt = 5 := by decide
theorem il6 : (6 : Int32).toInt = 6 := by decide
theorem il15 : (15 : Int32).toInt = 15 := by decide
theorem il16 : (16 : Int32).toInt = 16 := by decide
theorem il31 : (31 : Int32).toInt = 31 := by decide
theorem il32 : (32 : Int32).toInt = 32 := by decide
theorem il40 : (40 : Int32).toInt = 40 := by decide
theorem il60 : (60 : Int32).toInt = 60 := by decide
theorem il63 : (63 : Int32).toInt = 63 := by decide
theorem il64 : (64 : Int32).toInt = 64 := by decide
theorem il120 : (120 : Int32).toInt = 120 := by decide
theorem il290 : (290 : Int32).toInt = 290 := by decide
theorem il300 : (300 : Int32).toInt = 300 := by decide
theorem il1000 : (1000 : Int32).toInt = 1000 := by decide
theorem il10000 : (10000 : Int32).toInt = 10000 := by decide
theorem il100000 : (100000 : Int32).toInt = 100000 := by decide
theorem in0 {S A : sS} {G : sG} {x a c : Int32} : V7_in S A G x a c = 0 ↔ (x < a ∨ c < x) := by
  unfold V7_in
  by_cases c1 : x < a
  · rw [if_pos c1]; exact ⟨fun _ => Or.inl c1, fun _ => rfl⟩
  · rw [if_neg c1]
    by_cases c2 : c < x
    · rw [if_pos c2]; exact ⟨fun _ => Or.inr c2, fun _ => rfl⟩
    · rw [if_neg c2]; exact ⟨fun z => absurd z (by decide), fun z => absurd z (fun z => z.elim c1 c2)⟩
theorem in01 {S A : sS} {G : sG} {x a c : Int32} : V7_in S A G x a c = if x < a ∨ c < x then 0 else 1 := by
  unfold V7_in
  by_cases c1 : x < a
  · rw [if_pos c1, if_pos (Or.inl c1)]
  · rw [if_neg c1]
    by_cases c2 : c < x
    · rw [if_pos c2, if_pos (Or.inr c2)]
    · rw [if_neg c2, if_neg (fun z => z.elim c1 c2)]
theorem if2 {p q : Prop} [Decidable p] [Decidable q] {x y : Int32} (h : p ↔ q) : (if p then x else y) = (if q then x else y) := by
  by_cases c : p
  · rw [if_pos c, if_pos (h.mp c)]
  · rw [if_neg c, if_neg (fun z => c (h.mpr z))]
theorem cl_lt {x : Int32} {N : Nat} (h0 : 0 ≤ x.toInt) (h1 : x.toInt < N) : x.toNatClampNeg < N := by have := cl_i h0; omega
section COND
variable {n : Nat} {S A : sS} {G : sG} {T B : sS} {G1 : sG}
theorem who_ok (h : rR n S A G T B) : S 0 0 9 = -1 ∨ (0 ≤ (S 0 0 9).toInt ∧ (S 0 0 9).toInt < 16 ∧ ¬ G 1 (S 0 0 9).toNatClampNeg = none) := h.2.1.1
theorem who_lt (h : rR n S A G T B) : T 20 0 6 < 0 ↔ S 0 0 9 = -1 := by
  rw [h.1.2.2.1]
  constructor
  · intro z
    rcases who_ok h with q | q
    · exact q
    · simp only [Int32.lt_iff_toInt_lt, Int32.le_iff_toInt_le, ← Int32.toInt_inj, il0, il1, il2, il3, il4, il5, il6, il15, il16, il31, il32, il40, il60, il63, il64, il120, il290, il300, il1000, il10000, il100000, ln1, ln2, ln3, ln4, ln5, ln6, ln7, ln8, ln9, ln10] at z; omega
  · intro z; rw [z]; decide
theorem who_ge (h : rR n S A G T B) : 0 ≤ T 20 0 6 ↔ ¬ S 0 0 9 = -1 := by
  rw [← who_lt h]
  simp only [Int32.lt_iff_toInt_lt, Int32.le_iff_toInt_le, ← Int32.toInt_inj, il0, il1, il2, il3, il4, il5, il6, il15, il16, il31, il32, il40, il60, il63, il64, il120, il290, il300, il1000, il10000, il100000, ln1, ln2, ln3, ln4, ln5, ln6, ln7, ln8, ln9, ln10]; omega
theorem act_lt (h : rR n S A G T B) : T 20 0 27 < 0 ↔ S 5 0 0 = -1 := by
  obtain ⟨e, r, -⟩ := h.2.2.2.2.2.1
  rw [e]
  simp only [Int32.lt_iff_toInt_lt, Int32.le_iff_toInt_le, ← Int32.toInt_inj, il0, il1, il2, il3, il4, il5, il6, il15, il16, il31, il32, il40, il60, il63, il64, il120, il290, il300, il1000, il10000, il100000, ln1, ln2, ln3, ln4, ln5, ln6, ln7, ln8, ln9, ln10]; omega
theorem act_ge (h : rR n S A G T B) : 0 ≤ T 20 0 27 ↔ ¬ S 5 0 0 = -1 := by
  rw [← act_lt h]
  simp only [Int32.lt_iff_toInt_lt, Int32.le_iff_toInt_le, ← Int32.toInt_inj, il0, il1, il2, il3, il4, il5, il6, il15, il16, il31, il32, il40, il60, il63, il64, il120, il290, il300, il1000, il10000, il100000, ln1, ln2, ln3, ln4, ln5, ln6, ln7, ln8, ln9, ln10]; omega
theorem opn {S A : sS} {G : sG} : V4_isOpen S A G = 0 ↔ S 5 0 0 = -1 := by
  unfold V4_isOpen
  by_cases c : S 5 0 0 = -1
  · rw [if_pos c]; exact ⟨fun _ => c, fun _ => rfl⟩
  · rw [if_neg c]; exact ⟨fun z => absurd z (by decide), fun z => absurd z c⟩
theorem isUser_eq (h : rR n S A G T B) (x : Int32) : V6_isUser S A G x = V7_hasUser T B G1 x := by
  unfold V6_isUser V7_hasUser
  by_cases c1 : x < 0
  · rw [if_pos c1, if_pos (in0.mpr (Or.inl c1))]
  · by_cases c2 : 16 ≤ x
    · rw [if_neg c1, if_pos c2, if_pos (in0.mpr (Or.inr (by simp only [Int32.lt_iff_toInt_lt, Int32.le_iff_toInt_le, ← Int32.toInt_inj, il0, il1, il2, il3, il4, il5, il6, il15, il16, il31, il32, il40, il60, il63, il64, il120, il290, il300, il1000, il10000, il100000, ln1, ln2, ln3, ln4, ln5, ln6, ln7, ln8, ln9, ln10] at *; omega)))]
    · have hx : 0 ≤ x.toInt ∧ x.toInt < 16 := by simp only [Int32.lt_iff_toInt_lt, Int32.le_iff_toInt_le, ← Int32.toInt_inj, il0, il1, il2, il3, il4, il5, il6, il15, il16, il31, il32, il40, il60, il63, il64, il120, il290, il300, il1000, il10000, il100000, ln1, ln2, ln3, ln4, ln5, ln6, ln7, ln8, ln9, ln10] at c1 c2; omega
      rw [if_neg c1, if_neg c2, if_neg (fun z => (in0.mp z).elim c1 (fun z => c2 (by simp only [Int32.lt_iff_toInt_lt, Int32.le_iff_toInt_le, ← Int32.toInt_inj, il0, il1, il2, il3, il4, il5, il6, il15, il16, il31, il32, il40, il60, il63, il64, il120, il290, il300, il1000, il10000, il100000, ln1, ln2, ln3, ln4, ln5, ln6, ln7, ln8, ln9, ln10] at *; omega)))]
      obtain ⟨u1, u2⟩ := h.2.1.2 x.toNatClampNeg (cl_lt hx.1 hx.2)
      exact if2 ⟨fun z => (u1 z).1, fun z => Classical.byContradiction fun w => (u2 w).1 z⟩
theorem isItem_eq (h : rR n S A G T B) (x : Int32) : V6_isItem S A G x = V7_hasItem T B G1 x := by
  unfold V6_isItem V7_hasItem
  by_cases c1 : x < 0
  · rw [if_pos c1, if_pos (in0.mpr (Or.inl c1))]
  · by_cases c2 : 32 ≤ x
    · rw [if_neg c1, if_pos c2, if_pos (in0.mpr (Or.inr (by simp only [Int32.lt_iff_toInt_lt, Int32.le_iff_toInt_le, ← Int32.toInt_inj, il0, il1, il2, il3, il4, il5, il6, il15, il16, il31, il32, il40, il60, il63, il64, il120, il290, il300, il1000, il10000, il100000, ln1, ln2, ln3, ln4, ln5, ln6, ln7, ln8, ln9, ln10] at *; omega)))]
    · have hx : 0 ≤ x.toInt ∧ x.toInt < 32 := by simp only [Int32.lt_iff_toInt_lt, Int32.le_iff_toInt_le, ← Int32.toInt_inj, il0, il1, il2, il3, il4, il5, il6, il15, il16, il31, il32, il40, il60, il63, il64, il120, il290, il300, il1000, il10000, il100000, ln1, ln2, ln3, ln4, ln5, ln6, ln7, ln8, ln9, ln10] at c1 c2; omega
      rw [if_neg c1, if_neg c2, if_neg (fun z => (in0.mp z).elim c1 (fun z => c2 (by simp only [Int32.lt_iff_toInt_lt, Int32.le_iff_toInt_le, ← Int32.toInt_inj, il0, il1, il2, il3, il4, il5, il6, il15, il16, il31, il32, il40, il60, il63, il64, il120, il290, il300, il1000, il10000, il100000, ln1, ln2, ln3, ln4, ln5, ln6, ln7, ln8, ln9, ln10] at *; omega)))]
      obtain ⟨u1, u2⟩ := h.2.2.1 x.toNatClampNeg (cl_lt hx.1 hx.2)
      exact if2 ⟨fun z => (u1 z).1, fun z => Classical.byContradiction fun w => (u2 w).1 z⟩
theorem isItem_r {S A : sS} {G : sG} {x : Int32} (h : ¬ V6_isItem S A G x = 0) : 0 ≤ x.toInt ∧ x.toInt < 32 ∧ ¬ G 2 x.toNatClampNeg = none := by
  unfold V6_isItem at h
  by_cases c1 : x < 0
  · rw [if_pos c1] at h; exact absurd rfl h
  · rw [if_neg c1] at h
    by_cases c2 : 32 ≤ x
    · rw [if_pos c2] at h; exact absurd rfl h
    · rw [if_neg c2] at h
      by_cases c3 : G 2 x.toNatClampNeg = none
      · rw [if_pos c3] at h; exact absurd rfl h
      · exact ⟨by simp only [Int32.lt_iff_toInt_lt, Int32.le_iff_toInt_le, ← Int32.toInt_inj, il0, il1, il2, il3, il4, il5, il6, il15, il16, il31, il32, il40, il60, il63, il64, il120, il290, il300, il1000, il10000, il100000, ln1, ln2, ln3, ln4, ln5, ln6, ln7, ln8, ln9, ln10] at *; omega, by simp only [Int32.lt_iff_toInt_lt, Int32.le_iff_toInt_le, ← Int32.toInt_inj, il0, il1, il2, il3, il4, il5, il6, il15, il16, il31, il32, il40, il60, il63, il64, il120, il290, il300, il1000, il10000, il100000, ln1, ln2, ln3, ln4, ln5, ln6, ln7, ln8, ln9, ln10] at *; omega, c3⟩
theorem isItem_y {S A : sS} {G : sG} {x : Int32} (h0 : 0 ≤ x.toInt) (h1 : x.toInt < 32) (h2 : ¬ G 2 x.toNatClampNeg = none) : V6_isItem S A G x = 1 := by
  unfold V6_isItem
  rw [if_neg (by simp only [Int32.lt_iff_toInt_lt, Int32.le_iff_toInt_le, ← Int32.toInt_inj, il0, il1, il2, il3, il4, il5, il6, il15, il16, il31, il32, il40, il60, il63, il64, il120, il290, il300, il1000, il10000, il100000, ln1, ln2, ln3, ln4, ln5, ln6, ln7, ln8, ln9, ln10]; omega), if_neg (by simp only [Int32.lt_iff_toInt_lt, Int32.le_iff_toInt_le, ← Int32.toInt_inj, il0, il1, il2, il3, il4, il5, il6, il15, il16, il31, il32, il40, il60, il63, il64, il120, il290, il300, il1000, il10000, il100000, ln1, ln2, ln3, ln4, ln5, ln6, ln7, ln8, ln9, ln10]; omega), if_neg h2]
theorem isUser_r {S A : sS} {G : sG} {x : Int32} (h : ¬ V6_isUser S A G x = 0) : 0 ≤ x.toInt ∧ x.toInt < 16 ∧ ¬ G 1 x.toNatClampNeg = none := by
  unfold V6_isUser at h
  by_cases c1 : x < 0
  · rw [if_pos c1] at h; exact absurd rfl h
  · rw [if_neg c1] at h
    by_cases c2 : 16 ≤ x
    · rw [if_pos c2] at h; exact absurd rfl h
    · rw [if_neg c2] at h
      by_cases c3 : G 1 x.toNatClampNeg = none
      · rw [if_pos c3] at h; exact absurd rfl h
      · exact ⟨by simp only [Int32.lt_iff_toInt_lt, Int32.le_iff_toInt_le, ← Int32.toInt_inj, il0, il1, il2, il3, il4, il5, il6, il15, il16, il31, il32, il40, il60, il63, il64, il120, il290, il300, il1000, il10000, il100000, ln1, ln2, ln3, ln4, ln5, ln6, ln7, ln8, ln9, ln10] at *; omega, by simp only [Int32.lt_iff_toInt_lt, Int32.le_iff_toInt_le, ← Int32.toInt_inj, il0, il1, il2, il3, il4, il5, il6, il15, il16, il31, il32, il40, il60, il63, il64, il120, il290, il300, il1000, il10000, il100000, ln1, ln2, ln3, ln4, ln5, ln6, ln7, ln8, ln9, ln10] at *; omega, c3⟩
theorem isBin_eq {S A : sS} {G : sG} {T B : sS} {G1 : sG} (x : Int32) : V6_isBin S A G x = V7_hasBin T B G1 x := by
  unfold V6_isBin V7_hasBin
  rw [in01]
  by_cases c1 : x < 0
  · rw [if_pos c1, if_pos (Or.inl c1)]
  · rw [if_neg c1]
    exact if2 ⟨fun z => Or.inr (by simp only [Int32.lt_iff_toInt_lt, Int32.le_iff_toInt_le, ← Int32.toInt_inj, il0, il1, il2, il3, il4, il5, il6, il15, il16, il31, il32, il40, il60, il63, il64, il120, il290, il300, il1000, il10000, il100000, ln1, ln2, ln3, ln4, ln5, ln6, ln7, ln8, ln9, ln10] at *; omega), fun z => z.elim (fun z => absurd z c1) (fun z => by simp only [Int32.lt_iff_toInt_lt, Int32.le_iff_toInt_le, ← Int32.toInt_inj, il0, il1, il2, il3, il4, il5, il6, il15, il16, il31, il32, il40, il60, il63, il64, il120, il290, il300, il1000, il10000, il100000, ln1, ln2, ln3, ln4, ln5, ln6, ln7, ln8, ln9, ln10] at *; omega)⟩
theorem isBin_r {S A : sS} {G : sG} {x : Int32} (h : ¬ V6_isBin S A G x = 0) : 0 ≤ x.toInt ∧ x.toInt < 64 := by
  unfold V6_isBin at h
  by_cases c1 : x < 0
  · rw [if_pos c1] at h; exact absurd rfl h
  · rw [if_neg c1] at h
    by_cases c2 : 64 ≤ x
    · rw [if_pos c2] at h; exact absurd rfl h
    · simp only [Int32.lt_iff_toInt_lt, Int32.le_iff_toInt_le, ← Int32.toInt_inj, il0, il1, il2, il3, il4, il5, il6, il15, il16, il31, il32, il40, il60, il63, il64, il120, il290, il300, il1000, il10000, il100000, ln1, ln2, ln3, ln4, ln5, ln6, ln7, ln8, ln9, ln10] at *; omega
theorem isOrder_eq (h : rR n S A G T B) (x : Int32) : V6_isOrder S A G x = V7_hasOrder T B G1 x := by
  obtain ⟨o1, o2, -⟩ := h.2.2.2.2.1
  unfold V6_isOrder V7_hasOrder
  rw [in01, o1]
  have e := sub1_i (x := S 0 0 13) (by omega)
  by_cases c1 : x < 0
  · rw [if_pos c1, if_pos (Or.inl c1)]
  · rw [if_neg c1]
    exact if2 ⟨fun z => Or.inr (by simp only [Int32.lt_iff_toInt_lt, Int32.le_iff_toInt_le, ← Int32.toInt_inj, il0, il1, il2, il3, il4, il5, il6, il15, il16, il31, il32, il40, il60, il63, il64, il120, il290, il300, il1000, il10000, il100000, ln1, ln2, ln3, ln4, ln5, ln6, ln7, ln8, ln9, ln10] at *; omega), fun z => z.elim (fun z => absurd z c1) (fun z => by simp only [Int32.lt_iff_toInt_lt, Int32.le_iff_toInt_le, ← Int32.toInt_inj, il0, il1, il2, il3, il4, il5, il6, il15, il16, il31, il32, il40, il60, il63, il64, il120, il290, il300, il1000, il10000, il100000, ln1, ln2, ln3, ln4, ln5, ln6, ln7, ln8, ln9, ln10] at *; omega)⟩
theorem isOrder_r {S A : sS} {G : sG} {x : Int32} (h : ¬ V6_isOrder S A G x = 0) : 0 ≤ x.toInt ∧ x.toInt < (S 0 0 13).toInt := by
  unfold V6_isOrder at h
  by_cases c1 : x < 0
  · rw [if_pos c1] at h; exact absurd rfl h
  · rw [if_neg c1] at h
    by_cases c2 : S 0 0 13 ≤ x
    · rw [if_pos c2] at h; exact absurd rfl h
    · simp only [Int32.lt_iff_toInt_lt, Int32.le_iff_toInt_le, ← Int32.toInt_inj, il0, il1, il2, il3, il4, il5, il6, il15, il16, il31, il32, il40, il60, il63, il64, il120, il290, il300, il1000, il10000, il100000, ln1, ln2, ln3, ln4, ln5, ln6, ln7, ln8, ln9, ln10] at *; omega
theorem ord_at (h : rR n S A G T B) {x : Int32} (hx : 0 ≤ x.toInt ∧ x.toInt < (S 0 0 13).toInt) : rO1 G S B x.toNatClampNeg := h.2.2.2.2.1.2.2.2.2.2 _ (by have := cl_i hx.1; omega)
theorem role_in (h : rR n S A G T B) (hw : ¬ S 0 0 9 = -1) : T 20 0 6 = S 0 0 9 ∧ V6_isUser S A G (S 0 0 9) = 1 ∧ B 23 0 (S 0 0 9).toNatClampNeg = S 12 (S 0 0 9).toNatClampNeg 0 ∧ (0 ≤ (S 12 (S 0 0 9).toNatClampNeg 0).toInt ∧ (S 12 (S 0 0 9).toNatClampNeg 0).toInt ≤ 2) := by
  obtain ⟨w1, w2, w3⟩ := (who_ok h).resolve_left hw
  obtain ⟨-, u2⟩ := h.2.1.2 (S 0 0 9).toNatClampNeg (cl_lt w1 w2)
  refine ⟨h.1.2.2.1, ?_, (u2 w3).2.1, (u2 w3).2.2.2.2.2.1⟩
  unfold V6_isUser
  rw [if_neg (by simp only [Int32.lt_iff_toInt_lt, Int32.le_iff_toInt_le, ← Int32.toInt_inj, il0, il1, il2, il3, il4, il5, il6, il15, il16, il31, il32, il40, il60, il63, il64, il120, il290, il300, il1000, il10000, il100000, ln1, ln2, ln3, ln4, ln5, ln6, ln7, ln8, ln9, ln10]; omega), if_neg (by simp only [Int32.lt_iff_toInt_lt, Int32.le_iff_toInt_le, ← Int32.toInt_inj, il0, il1, il2, il3, il4, il5, il6, il15, il16, il31, il32, il40, il60, il63, il64, il120, il290, il300, il1000, il10000, il100000, ln1, ln2, ln3, ln4, ln5, ln6, ln7, ln8, ln9, ln10]; omega), if_neg w3]
theorem phar (h : rR n S A G T B) (hw : ¬ S 0 0 9 = -1) : V6_isPharmacistIn S A G = 0 ↔ ¬ B 23 0 (T 20 0 6).toNatClampNeg = 1 := by
  obtain ⟨e, u, r, -⟩ := role_in h hw
  unfold V6_isPharmacistIn
  rw [e, if_neg (by rw [u]; decide), r]
  by_cases c : S 12 (S 0 0 9).toNatClampNeg 0 = 1
  · rw [if_pos c]; exact ⟨fun z => absurd z (by decide), fun z => absurd c z⟩
  · rw [if_neg c]; exact ⟨fun _ => c, fun _ => rfl⟩
theorem hand (h : rR n S A G T B) (hw : ¬ S 0 0 9 = -1) : V6_isHandlerIn S A G = 0 ↔ B 23 0 (T 20 0 6).toNatClampNeg = 2 := by
  have hp := phar h hw
  obtain ⟨e, u, r, r2⟩ := role_in h hw
  rw [e, r] at hp
  unfold V6_isHandlerIn
  rw [e, r]
  by_cases c : V6_isPharmacistIn S A G = 0
  · rw [if_pos c, if_neg (by rw [u]; decide)]
    have c' := hp.mp c
    by_cases d : S 12 (S 0 0 9).toNatClampNeg 0 = 0
    · rw [if_pos d, d]; exact ⟨fun z => absurd z (by decide), fun z => absurd z (by decide)⟩
    · rw [if_neg d]; refine ⟨fun _ => ?_, fun _ => rfl⟩
      simp only [Int32.lt_iff_toInt_lt, Int32.le_iff_toInt_le, ← Int32.toInt_inj, il0, il1, il2, il3, il4, il5, il6, il15, il16, il31, il32, il40, il60, il63, il64, il120, il290, il300, il1000, il10000, il100000, ln1, ln2, ln3, ln4, ln5, ln6, ln7, ln8, ln9, ln10] at *; omega
  · rw [if_neg c]
    have c' : S 12 (S 0 0 9).toNatClampNeg 0 = 1 := Classical.byContradiction fun z => c (hp.mpr z)
    rw [c']; exact ⟨fun z => absurd z (by decide), fun z => absurd z (by decide)⟩
theorem wat_0 (h : rR n S A G T B) : V7_isWatched T B G1 = 0 ↔ S 0 0 11 = -1 := by
  rw [h.1.2.2.2.2.2.2]
  unfold V7_isWatched wat
  by_cases c1 : T 20 0 6 < 0
  · rw [if_pos c1, if_pos c1]; exact ⟨fun _ => rfl, fun _ => rfl⟩
  · by_cases c2 : T 20 0 8 < 0
    · rw [if_neg c1, if_neg c1, if_pos c2, if_pos c2]; exact ⟨fun _ => rfl, fun _ => rfl⟩
    · by_cases c3 : T 20 0 9 ≤ T 20 0 0
      · rw [if_neg c1, if_neg c1, if_neg c2, if_neg c2, if_pos c3, if_pos c3]; exact ⟨fun _ => rfl, fun _ => rfl⟩
      · rw [if_neg c1, if_neg c1, if_neg c2, if_neg c2, if_neg c3, if_neg c3]
        exact ⟨fun z => absurd z (by decide), fun z => by rw [z] at c2; exact absurd (by decide) c2⟩
theorem ctl (h : rR n S A G T B) {x : Int32} (h0 : 0 ≤ x.toInt) (h1 : x.toInt < 32) (h2 : ¬ G 2 x.toNatClampNeg = none) : V6_isControlled S A G x = 0 ↔ B 32 0 x.toNatClampNeg = 0 := by
  unfold V6_isControlled
  rw [if_neg (by rw [isItem_y h0 h1 h2]; decide), ((h.2.2.1 x.toNatClampNeg (cl_lt h0 h1)).2 h2).2.1]
  by_cases c : S 13 x.toNatClampNeg 0 = 0
  · rw [if_pos c]; exact ⟨fun _ => c, fun _ => rfl⟩
  · rw [if_neg c]; exact ⟨fun z => absurd z (by decide), fun z => absurd z c⟩
theorem oopn (h : rR n S A G T B) {x : Int32} (hx : 0 ≤ x.toInt ∧ x.toInt < (S 0 0 13).toInt) : V3_isOpen S A G x.toNatClampNeg (S 0 0 8) = V7_isOpen T B G1 x := by
  obtain ⟨-, -, -, -, e2, e3, e4, -⟩ := ord_at h hx
  unfold V3_isOpen V7_isOpen
  rw [e2, e3, e4, h.1.1]
theorem mayT (h : rR n S A G T B) {x : Int32} (hx : 0 ≤ x.toInt ∧ x.toInt < (S 0 0 13).toInt) : V3_mayTake S A G x.toNatClampNeg (S 0 0 8) = V7_mayTake T B G1 x := by
  have ho := oopn (G1 := G1) h hx
  obtain ⟨-, -, -, e1, e2, e3, e4, e5⟩ := ord_at h hx
  unfold V3_mayTake V7_mayTake
  rw [ho, e1, h.1.1]
  rcases e5 with ⟨a, b⟩ | ⟨a, b, d⟩
  · rw [if_pos a, b, if_pos (show (-1 : Int32) < 0 by decide)]
  · rw [if_neg a, b, if_neg (show ¬ S 14 x.toNatClampNeg 6 < 0 by simp only [Int32.lt_iff_toInt_lt, Int32.le_iff_toInt_le, ← Int32.toInt_inj, il0, il1, il2, il3, il4, il5, il6, il15, il16, il31, il32, il40, il60, il63, il64, il120, il290, il300, il1000, il10000, il100000, ln1, ln2, ln3, ln4, ln5, ln6, ln7, ln8, ln9, ln10]; omega)]
theorem whole_eq (h : rR n S A G T B) : V2_wholeCopies S A G = V7_wholeCopies T B G1 := by
  obtain ⟨-, -, ⟨e1, e2⟩, -⟩ := h.2.2.2.2.2.2.2.1
  unfold V2_wholeCopies V7_wholeCopies
  rw [e1, e2]
  rfl
end COND
