/-! reconcile and audit -/
section REC
variable {n : Nat} {S A : sS} {G : sG} {T B : sS} {G1 : sG}
theorem mm_no (h : rR n S A G T B) {j : Nat} (hj : j < 64) : rR n (up3 S 15 j 5 0) A G T (up3 B 40 0 j 0) := by
  obtain ⟨q1, q2, q3, q4, q5, q6⟩ := h.2.2.2.1 j hj
  refine h.bin (fS_u fS_r) fA_r (fBB_40 (fB_BB fB_r)) ?_ h.2.2.2.2.2.2.1
  have s5 : up3 S 15 j 5 0 15 j 5 = 0 := up3_s
  have b40 : up3 B 40 0 j 0 40 0 j = 0 := up3_s
  unfold rB1
  rw [s5, b40]
  exact ⟨q1, q2, q3, rfl, q5, q6⟩
theorem mm_add (h : rR n S A G T B) (hc : (S 0 0 14).toInt < 64) {v : Int32} : rR n (up3 S 0 0 14 (S 0 0 14 + 1)) (up3 A 7 0 (S 0 0 14).toNatClampNeg v) G (up3 T 20 0 37 (T 20 0 37 + 1)) (up3 B 59 0 (T 20 0 37).toNatClampNeg v) := by
  obtain ⟨g1, g2, g3, g4, g5, g6, g7, g8, ⟨m1, m2, m3⟩⟩ := h
  have ea := add_i (x := S 0 0 14) (y := 1) (by rw [il1]; omega) (by rw [il1]; omega)
  rw [il1] at ea
  refine ⟨g1, g2, g3, g4, g5, g6, g7, g8, ⟨?_, ?_, ?_⟩⟩
  · show T 20 0 37 + 1 = S 0 0 14 + 1
    rw [m1]
  · show 0 ≤ (S 0 0 14 + 1).toInt ∧ (S 0 0 14 + 1).toInt ≤ 64
    omega
  · intro i hi
    have hi' : (i : Int) < (S 0 0 14 + 1).toInt := hi
    rw [m1, up3_i, up3_i]
    have ec := cl_i m2.1
    by_cases e : i = (S 0 0 14).toNatClampNeg
    · rw [if_pos e, if_pos e]
    · rw [if_neg e, if_neg e]
      exact m3 i (by omega)
theorem mm_yes (h : rR n S A G T B) {j : Nat} (hj : j < 64) (hc : (S 0 0 14).toInt < 64) {v : Int32} : rR n (up3 (up3 S 0 0 14 (S 0 0 14 + 1)) 15 j 5 0) (up3 A 7 0 (S 0 0 14).toNatClampNeg v) G (up3 T 20 0 37 (T 20 0 37 + 1)) (up3 (up3 B 59 0 (T 20 0 37).toNatClampNeg v) 40 0 j 0) := mm_no (mm_add h hc) hj
theorem isM (h : rR n S A G T B) {j : Nat} (hj : j < 64) {X Y : Int32 × sS × sS} : (if B 35 0 j < 0 then X else if B 39 0 j = 0 then if B 32 0 ((B 35 0 j).toNatClampNeg) = 0 then X else if B 40 0 j = 0 then Y else X else Y) = if V6_isMismatch S A G j = 0 then X else Y := by
  obtain ⟨e35, -, e39, e40, q5, -⟩ := h.2.2.2.1 j hj
  rw [e35, e39, e40]
  unfold V6_isMismatch
  rcases q5 with ⟨z1, z2, z3⟩ | z
  · have nc : V6_isControlled S A G (S 15 j 2) = 0 := by
      unfold V6_isControlled
      rw [if_pos (show V6_isItem S A G (S 15 j 2) = 0 by unfold V6_isItem; rw [z1, if_pos (by decide)])]
    rw [if_pos (show S 15 j 2 < 0 by rw [z1]; decide), if_pos z3, if_pos nc, if_pos rfl]
  · have hct := ctl h z.1 z.2.1 z.2.2
    rw [if_neg (show ¬ S 15 j 2 < 0 by simp only [Int32.lt_iff_toInt_lt, Int32.le_iff_toInt_le, ← Int32.toInt_inj, il0, il1, il2, il3, il4, il5, il6, il15, il16, il31, il32, il40, il60, il63, il64, il120, il290, il300, il1000, il10000, il100000, ln1, ln2, ln3, ln4, ln5, ln6, ln7, ln8, ln9, ln10]; omega)]
    by_cases c1 : S 15 j 4 = 0
    · rw [if_pos c1, if_pos c1]
      by_cases c2 : V6_isControlled S A G (S 15 j 2) = 0
      · rw [if_pos c2, if_pos (hct.mp c2), if_pos rfl]
      · rw [if_neg c2, if_neg (fun y => c2 (hct.mpr y))]
        by_cases c3 : S 15 j 5 = 0
        · rw [if_pos c3, if_pos c3, if_neg n10]
        · rw [if_neg c3, if_neg c3, if_pos rfl]
    · rw [if_neg c1, if_neg c1, if_neg n10]
theorem rec_v : ∀ (m r : Nat) (S A T B : sS) (j : Nat) (z1 z2 : Int32), j + m = 64 → m < r → rR n S A G T B → (S 0 0 14).toInt ≤ j → (S 6 0 1).toInt < 300 → cg n G (O6_reconcile_19 G r S A z1 j) (O7_reconcile_84 G1 r T B z2 j) := by
  intro m
  induction m with
  | zero =>
    intro r S A T B j z1 z2 h1 h2 h hc hs
    obtain ⟨r, rfl⟩ : ∃ q, r = q + 1 := ⟨r - 1, by omega⟩
    have c : (64 : Int32) ≤ nI j := ge0 (K := 64) (by decide) (by decide) (by omega)
    have m1 := h.2.2.2.2.2.2.2.2.1
    rw [O6_reconcile_19, O7_reconcile_84, if_pos c, if_pos c, wr_eq (sz_lt hs), m1]
    have r1 := note_r (G1 := G1) h hs (kd := 6) (b := -1) (u := S 0 0 14) (o := -1) (Or.inl (by decide))
    exact ⟨m1.symm, r1.mono⟩
  | succ m ih =>
    intro r S A T B j z1 z2 h1 h2 h hc hs
    obtain ⟨r, rfl⟩ : ∃ q, r = q + 1 := ⟨r - 1, by omega⟩
    have c : ¬ (64 : Int32) ≤ nI j := lt0 (K := 64) (by decide) (by decide) (by omega)
    have hj : j < 64 := by omega
    have m2 := h.2.2.2.2.2.2.2.2.2.1
    rw [O6_reconcile_19, O7_reconcile_84, if_neg c, if_neg c, isM h hj]
    by_cases d : V6_isMismatch S A G j = 0
    · rw [if_pos d, if_pos d]
      exact ih r _ _ _ _ (j + 1) _ _ (by omega) (by omega) (mm_no h hj) (show (S 0 0 14).toInt ≤ ((j + 1 : Nat) : Int) by omega) hs
    · rw [if_neg d, if_neg d]
      have ea := add_i (x := S 0 0 14) (y := 1) (by rw [il1]; omega) (by rw [il1]; omega)
      rw [il1] at ea
      exact ih r _ _ _ _ (j + 1) _ _ (by omega) (by omega) (mm_yes h hj (by omega)) (show (S 0 0 14 + 1).toInt ≤ ((j + 1 : Nat) : Int) by omega) hs
theorem co_reconcile (h : rR n S A G T B) : cg n G (O6_reconcile S A G) (O7_reconcile T B G1) := by
  have hL := h.2.2.2.2.2.2.2.1.1
  have hw0 := wat_0 (G1 := G1) h
  unfold O6_reconcile O7_reconcile V6_refusalWithoutStep
  rw [hL]
  simp only [if_neg n10]
  by_cases w : S 0 0 9 = -1
  · have w' : ¬ 0 ≤ T 20 0 6 := fun z => (who_ge h).mp z w
    simp only [if_pos w, if_neg w', if_neg (show ¬ (-2 : Int32) = 0 by decide)]; exact cg_no h _
  have w' := (who_ge h).mpr w
  simp only [if_neg w, if_pos w']
  by_cases r : V6_isHandlerIn S A G = 0
  · simp only [if_pos r, if_pos ((hand h w).mp r), if_neg (show ¬ (-3 : Int32) = 0 by decide)]; exact cg_no h _
  simp only [if_neg r, if_neg (fun z => r ((hand h w).mpr z))]
  by_cases a : S 5 0 0 = -1
  · have a1 := opn (S := S) (A := A) (G := G) |>.mpr a
    simp only [if_pos a1, if_pos ((act_lt h).mpr a)]
    by_cases y : S 0 0 11 = -1
    · simp only [if_pos y, if_pos (hw0.mpr y), if_neg (show ¬ (-5 : Int32) = 0 by decide)]; exact cg_no h _
    simp only [if_neg y, if_neg (fun z => y (hw0.mp z))]
    by_cases d5 : S 6 0 1 < 290
    · simp only [if_pos d5, ↓reduceIte]
      have h1 : rR n (up3 S 0 0 14 0) A G (up3 T 20 0 37 0) B := by
        obtain ⟨g1, g2, g3, g4, g5, g6, g7, g8, -⟩ := h
        exact ⟨g1, g2, g3, g4, g5, g6, g7, g8, rfl, (by decide : 0 ≤ (0 : Int32).toInt ∧ (0 : Int32).toInt ≤ 64), fun i hi => absurd (show (i : Int) < (0 : Int32).toInt from hi) (by rw [il0]; omega)⟩
      exact rec_v 64 65 _ _ _ _ 0 _ _ (by omega) (by omega) h1 (by decide : (0 : Int32).toInt ≤ ((0 : Nat) : Int)) (show (S 6 0 1).toInt < 300 by simp only [Int32.lt_iff_toInt_lt, Int32.le_iff_toInt_le, ← Int32.toInt_inj, il0, il1, il2, il3, il4, il5, il6, il15, il16, il31, il32, il40, il60, il63, il64, il120, il290, il300, il1000, il10000, il100000, ln1, ln2, ln3, ln4, ln5, ln6, ln7, ln8, ln9, ln10] at d5; omega)
    · simp only [if_neg d5, if_neg (show ¬ (-8 : Int32) = 0 by decide)]; exact cg_no h _
  · have a1 : ¬ V4_isOpen S A G = 0 := fun z => a (opn.mp z)
    simp only [if_neg a1, if_neg (fun z => a ((act_lt h).mp z)), if_neg (show ¬ (-4 : Int32) = 0 by decide)]; exact cg_no h _
/-! audit -/
def f8 (A A1 : sS) : Prop := ∀ f m k, ¬ f = 8 → A1 f m k = A f m k
def cut8 (A : sS) : sS := fun f m k => if f = 8 then 0 else A f m k
theorem f8_rR (h : rR n S A G T B) {A1 : sS} (h1 : f8 A A1) : rR n S A1 G T B := by
  have e : cut8 A1 = cut8 A := by
    funext f m k
    unfold cut8
    by_cases c : f = 8
    · rw [if_pos c, if_pos c]
    · rw [if_neg c, if_neg c, h1 f m k c]
  have h2 : rR n S (cut8 A1) G T B := by rw [e]; exact h
  exact h2
theorem f8_u {A A1 : sS} {k : Nat} {v : Int32} (h : f8 A A1) : f8 A (up3 A1 8 0 k v) := fun f m i z => (up3_n (fun y => z y.1)).trans (h f m i z)
theorem f8_t {A A1 A2 : sS} (h : f8 A A1) (h2 : f8 A1 A2) : f8 A A2 := fun f m k z => (h2 f m k z).trans (h f m k z)
theorem rb20 {y1 : Int32} : ∀ (m r : Nat) (A : sS) (j : Nat), (j : Int) + m = (S 6 0 1).toInt → m < r → rR n S A G T B → ¬ V2_wholeCopies S A G = 0 → ∃ A1, O2_readBooks_20 G r S A j = (S, A1) ∧ f8 A A1 ∧ ∀ b, b < 64 → A1 8 0 b = VV7_audit_25 T B G1 y1 (nI b) r (A 8 0 b) j := by
  intro m
  induction m with
  | zero =>
    intro r A j h1 h2 h hw
    obtain ⟨r, rfl⟩ : ∃ q, r = q + 1 := ⟨r - 1, by omega⟩
    have l2 := h.2.2.2.2.2.2.2.1.2.1
    have l1 := h.2.2.2.2.2.2.2.1.1
    have e := nI_toInt (n := j) (by omega)
    have c : S 6 0 1 ≤ nI j := Int32.le_iff_toInt_le.mpr (by rw [e]; omega)
    rw [O2_readBooks_20, if_pos c]
    refine ⟨A, rfl, fun _ _ _ _ => rfl, fun b hb => ?_⟩
    rw [VV7_audit_25, l1, if_pos c]
  | succ m ih =>
    intro r A j h1 h2 h hw
    obtain ⟨r, rfl⟩ : ∃ q, r = q + 1 := ⟨r - 1, by omega⟩
    have l2 := h.2.2.2.2.2.2.2.1.2.1
    have l1 := h.2.2.2.2.2.2.2.1.1
    have l5 := h.2.2.2.2.2.2.2.1.2.2.2.2 j (by omega)
    have e := nI_toInt (n := j) (by omega)
    have hc := nI_clamp (n := j) (by omega)
    have c : ¬ S 6 0 1 ≤ nI j := fun z => by have := Int32.le_iff_toInt_le.mp z; rw [e] at this; omega
    have j0 : 0 ≤ (nI j).toInt := by rw [e]; omega
    have j1 : (nI j).toInt < (S 6 0 1).toInt := by rw [e]; omega
    have v0 : V2_read S A G (nI j) 0 = B 56 0 (6 * j) := by
      have := read_v h hw j0 j1 (x2 := 0) (by decide) (by decide)
      rw [hc] at this
      exact this
    have v3 : V2_read S A G (nI j) 3 = B 56 0 (6 * j + 3) := by
      have := read_v h hw j0 j1 (x2 := 3) (by decide) (by decide)
      rw [hc] at this
      exact this
    have v4 : V2_read S A G (nI j) 4 = B 56 0 (6 * j + 4) := by
      have := read_v h hw j0 j1 (x2 := 4) (by decide) (by decide)
      rw [hc] at this
      exact this
    have hh : ((j + 1 : Nat) : Int) + m = (S 6 0 1).toInt := by omega
    have hr : m < r := by omega
    rw [O2_readBooks_20, if_neg c, v0, v3, v4]
    -- an entry of another bin
    have other : ∀ b, b < 64 → ¬ B 56 0 (6 * j + 3) = nI b → VV7_audit_25 T B G1 y1 (nI b) (r + 1) (A 8 0 b) j = VV7_audit_25 T B G1 y1 (nI b) r (A 8 0 b) (j + 1) := fun b hb hne => by
      rw [VV7_audit_25, l1, if_neg c, hc, if_neg hne, Int32.add_zero]
    by_cases d1 : B 56 0 (6 * j + 3) < 0
    · rw [if_pos d1]
      obtain ⟨A1, r1, r2, r3⟩ := ih r A (j + 1) hh hr h hw
      refine ⟨A1, r1, r2, fun b hb => ?_⟩
      rw [r3 b hb, other b hb (fun z => by
        have q := lt_i d1
        rw [z, nI_toInt (by omega), il0] at q
        omega)]
    rw [if_neg d1]
    by_cases d2 : 64 ≤ B 56 0 (6 * j + 3)
    · rw [if_pos d2]
      obtain ⟨A1, r1, r2, r3⟩ := ih r A (j + 1) hh hr h hw
      refine ⟨A1, r1, r2, fun b hb => ?_⟩
      rw [r3 b hb, other b hb (fun z => by
        have q := le_i d2
        rw [z, nI_toInt (by omega), il64] at q
        omega)]
    rw [if_neg d2]
    have w0 : 0 ≤ (B 56 0 (6 * j + 3)).toInt := by have := nlt_i d1; rw [il0] at this; exact this
    have w1 : (B 56 0 (6 * j + 3)).toInt < 64 := by have := nle_i d2; rw [il64] at this; exact this
    obtain ⟨b0, hb0⟩ : ∃ b0 : Nat, (B 56 0 (6 * j + 3)).toNatClampNeg = b0 := ⟨_, rfl⟩
    have wc := cl_i w0
    have we := nI_cl w0
    rw [hb0] at wc we ⊢
    have hk := l5.resolve_left (by omega)
    obtain ⟨A1, r1, r2, r3⟩ := ih r (up3 A 8 0 b0 (A 8 0 b0 + V2_change S A G (B 56 0 (6 * j)) (B 56 0 (6 * j + 4)))) (j + 1) hh hr (f8_rR h (f8_u (fun _ _ _ _ => rfl))) hw
    refine ⟨A1, r1, f8_t (f8_u (fun _ _ _ _ => rfl)) r2, fun b hb => ?_⟩
    rw [r3 b hb, up3_i]
    by_cases d : b = b0
    · subst d
      rw [if_pos rfl, VV7_audit_25, l1, if_neg c, hc, if_pos we]
      unfold V2_change
      rcases hk with k | k | k | k
      · rw [k, if_neg (show ¬ (1 : Int32) = 2 by decide), if_neg (show ¬ (1 : Int32) = 4 by decide), if_pos rfl]
      · rw [k, if_pos rfl, if_neg (show ¬ (2 : Int32) = 1 by decide), if_neg (show ¬ (2 : Int32) = 3 by decide), if_pos rfl]
      · rw [k, if_neg (show ¬ (3 : Int32) = 2 by decide), if_neg (show ¬ (3 : Int32) = 4 by decide), if_neg (show ¬ (3 : Int32) = 1 by decide), if_pos rfl]
      · rw [k, if_neg (show ¬ (4 : Int32) = 2 by decide), if_pos rfl, if_neg (show ¬ (4 : Int32) = 1 by decide), if_neg (show ¬ (4 : Int32) = 3 by decide), if_neg (show ¬ (4 : Int32) = 2 by decide), if_pos rfl]
    · rw [if_neg d, other b hb (fun z => by
        rw [z] at wc
        rw [nI_toInt (by omega)] at wc
        omega)]
theorem rb2 : ∀ (m r : Nat) (A : sS) (j : Nat), j + m = 64 → m < r → (∀ b, b < j → A 8 0 b = 0) → ∃ A1, O2_readBooks_2 G r S A j = O2_readBooks_20 G 301 S A1 0 ∧ f8 A A1 ∧ ∀ b, b < 64 → A1 8 0 b = 0 := by
  intro m
  induction m with
  | zero =>
    intro r A j h1 h2 h
    obtain ⟨r, rfl⟩ : ∃ q, r = q + 1 := ⟨r - 1, by omega⟩
    have c : (64 : Int32) ≤ nI j := ge0 (K := 64) (by decide) (by decide) (by omega)
    rw [O2_readBooks_2, if_pos c]
    exact ⟨A, rfl, fun _ _ _ _ => rfl, fun b hb => h b (by omega)⟩
  | succ m ih =>
    intro r A j h1 h2 h
    obtain ⟨r, rfl⟩ : ∃ q, r = q + 1 := ⟨r - 1, by omega⟩
    have c : ¬ (64 : Int32) ≤ nI j := lt0 (K := 64) (by decide) (by decide) (by omega)
    rw [O2_readBooks_2, if_neg c]
    obtain ⟨A1, r1, r2, r3⟩ := ih r (up3 A 8 0 j 0) (j + 1) (by omega) (by omega) (fun b hb => by
      rw [up3_i]
      by_cases d : b = j
      · rw [if_pos d]
      · rw [if_neg d]; exact h b (by omega))
    exact ⟨A1, r1, f8_t (f8_u (fun _ _ _ _ => rfl)) r2, r3⟩
theorem au28 (h : rR n S A G T B) (h8 : ∀ y1 b, b < 64 → A 8 0 b = VV7_audit_25 T B G1 y1 (nI b) 301 0 0) : ∀ (m r : Nat) (z : Int32) (j : Nat), j + m = 64 → m < r → O6_audit_28 G r S A z j = (V7_audit_14 G1 r T B z j, S, A) := by
  intro m
  induction m with
  | zero =>
    intro r z j h1 h2
    obtain ⟨r, rfl⟩ : ∃ q, r = q + 1 := ⟨r - 1, by omega⟩
    have c : (64 : Int32) ≤ nI j := ge0 (K := 64) (by decide) (by decide) (by omega)
    rw [O6_audit_28, V7_audit_14, if_pos c, if_pos c]
  | succ m ih =>
    intro r z j h1 h2
    obtain ⟨r, rfl⟩ : ∃ q, r = q + 1 := ⟨r - 1, by omega⟩
    have c : ¬ (64 : Int32) ≤ nI j := lt0 (K := 64) (by decide) (by decide) (by omega)
    have hc := nI_clamp (n := j) (by omega)
    have e := nI_toInt (n := j) (by omega)
    obtain ⟨l, p, bk, gv, -, -, -, -, -, b1, b2, -⟩ := bin_v (G1 := G1) h (x := nI j) (by omega)
    rw [hc] at b1
    rw [O6_audit_28, V7_audit_14, if_neg c, if_neg c, b1, b2, ← h8 z j (by omega)]
    by_cases d : A 8 0 j = bk
    · rw [if_pos d, if_pos d, Int32.add_zero]
      exact ih r z (j + 1) (by omega) (by omega)
    · rw [if_neg d, if_neg d]
      exact ih r _ (j + 1) (by omega) (by omega)
theorem co_audit (h : rR n S A G T B) : ∃ A1, O6_audit S A G = (V7_audit T B G1, S, A1) ∧ f8 A A1 := by
  have hwh := whole_eq (G1 := G1) h
  have l2 := h.2.2.2.2.2.2.2.1.2.1
  unfold O6_audit V7_audit
  rw [← hwh]
  by_cases w : V2_wholeCopies S A G = 0
  · rw [if_pos w, if_pos w]; exact ⟨A, rfl, fun _ _ _ _ => rfl⟩
  rw [if_neg w, if_neg w]
  obtain ⟨A1, r1, r2, r3⟩ := rb2 (G := G) (S := S) 64 65 A 0 (by omega) (by omega) (fun b hb => by omega)
  have hA1 := f8_rR h r2
  have w1 : ¬ V2_wholeCopies S A1 G = 0 := by
    intro z
    have z' := whole_0.mp z
    rw [r2 9 0 0 (by decide), r2 9 0 1 (by decide)] at z'
    exact w (whole_0.mpr z')
  obtain ⟨A2, q1, q2, -⟩ := rb20 (G1 := G1) (y1 := 0) (S 6 0 1).toNatClampNeg 301 A1 0 (by have := cl_i l2.1; omega) (by have := cl_i l2.1; omega) hA1 w1
  have q3 : ∀ y1 b, b < 64 → A2 8 0 b = VV7_audit_25 T B G1 y1 (nI b) 301 0 0 := fun y1 b hb => by
    obtain ⟨A3, p1, -, p3⟩ := rb20 (G1 := G1) (y1 := y1) (S 6 0 1).toNatClampNeg 301 A1 0 (by have := cl_i l2.1; omega) (by have := cl_i l2.1; omega) hA1 w1
    rw [q1] at p1
    have e : A2 = A3 := congrArg Prod.snd p1
    rw [e, p3 b hb, r3 b hb]
  have hr : O2_readBooks S A G = (S, A2) := r1.trans q1
  rw [hr]
  refine ⟨A2, ?_, f8_t r2 q2⟩
  exact au28 (f8_rR h (f8_t r2 q2)) q3 64 65 0 0 (by omega) (by omega)
end REC
