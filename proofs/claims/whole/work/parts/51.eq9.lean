/-! begin -/
section BEGIN
variable {n : Nat} {S A : sS} {G : sG} {T B : sS} {G1 : sG}
/-- the bin that is taken from -/
theorem cho_v (h : rR n S A G T B) (x : Int32) : ∀ (m r : Nat) (z e : Int32) (j : Nat), j + m = 64 → m < r → (z = -1 ∨ ((0 ≤ z.toInt ∧ z.toInt < 64) ∧ e = V7_firstOf T B G1 z ∧ S 15 z.toNatClampNeg 2 = x)) → ∃ v, V6_binToTakeFrom_7 G x r S A z e j = v ∧ V7_chosen_4 G1 x r T B z j = v ∧ (v = -1 ∨ ((0 ≤ v.toInt ∧ v.toInt < 64) ∧ S 15 v.toNatClampNeg 2 = x)) := by
  intro m
  induction m with
  | zero =>
    intro r z e j h1 h2 hz
    obtain ⟨r, rfl⟩ : ∃ q, r = q + 1 := ⟨r - 1, by omega⟩
    have c : (64 : Int32) ≤ nI j := ge0 (K := 64) (by decide) (by decide) (by omega)
    rw [V6_binToTakeFrom_7, V7_chosen_4, if_pos c, if_pos c]
    exact ⟨z, rfl, rfl, hz.imp id (fun y => ⟨y.1, y.2.2⟩)⟩
  | succ m ih =>
    intro r z e j h1 h2 hz
    obtain ⟨r, rfl⟩ : ∃ q, r = q + 1 := ⟨r - 1, by omega⟩
    have c : ¬ (64 : Int32) ≤ nI j := lt0 (K := 64) (by decide) (by decide) (by omega)
    have hc := nI_clamp (n := j) (by omega)
    have ej := nI_toInt (n := j) (by omega)
    obtain ⟨l, p, bk, gv, g0, g6, gp, gf, -, -, -, -, g2, -, -, -, g3, -, g5⟩ := bin_v (G1 := G1) h (x := nI j) (by omega)
    rw [hc] at g0 gf g5
    have ep := nI_toInt (n := p) (by omega)
    have hpc := nI_clamp (n := p) (by omega)
    rw [V6_binToTakeFrom_7, V7_chosen_4, if_neg c, if_neg c, (h.2.2.2.1 j (by omega)).1, g2, gf, hpc]
    have hh : j + 1 + m = 64 := by omega
    have hr : m < r := by omega
    by_cases d : S 15 j 2 = x
    · rw [if_pos d, if_pos d]
      by_cases f : l ≤ p
      · have f1 : S 15 j 3 ≤ nI p := Int32.le_iff_toInt_le.mpr (by rw [g0, ep]; omega)
        have f2 : gv ≤ 0 := Int32.le_iff_toInt_le.mpr (by rw [il0]; exact g3.mpr f)
        rw [if_pos f1, if_pos f2]
        exact ih r z e (j + 1) hh hr hz
      · have f1 : ¬ S 15 j 3 ≤ nI p := fun y => by have := Int32.le_iff_toInt_le.mp y; rw [g0, ep] at this; omega
        have f2 : ¬ gv ≤ 0 := fun y => f (g3.mp (by have := Int32.le_iff_toInt_le.mp y; rw [il0] at this; exact this))
        have g5' := g5 (by omega)
        rw [if_neg f1, if_neg f2, g5']
        have hj : nI j = -1 ∨ ((0 ≤ (nI j).toInt ∧ (nI j).toInt < 64) ∧ A 16 j p = V7_firstOf T B G1 (nI j) ∧ S 15 (nI j).toNatClampNeg 2 = x) := Or.inr ⟨by omega, g5'.symm, by rw [hc]; exact d⟩
        rcases hz with y | ⟨y1, y2, y3⟩
        · rw [if_pos y, if_pos (by rw [y]; decide)]
          exact ih r (nI j) (A 16 j p) (j + 1) hh hr hj
        · have z1 : ¬ z = -1 := fun w => by rw [w, ln1] at y1; omega
          have z2 : ¬ z < 0 := fun w => by have := lt_i w; rw [il0] at this; omega
          rw [if_neg z1, if_neg z2, ← y2]
          by_cases k : e ≤ A 16 j p
          · rw [if_pos k, if_pos k]
            exact ih r z e (j + 1) hh hr (Or.inr ⟨y1, y2, y3⟩)
          · rw [if_neg k, if_neg k]
            exact ih r (nI j) (A 16 j p) (j + 1) hh hr hj
    · rw [if_neg d, if_neg d]
      exact ih r z e (j + 1) hh hr hz
theorem cho_e (h : rR n S A G T B) (x : Int32) : ∃ v, V6_binToTakeFrom S A G x = v ∧ V7_chosen T B G1 x = v ∧ (v = -1 ∨ ((0 ≤ v.toInt ∧ v.toInt < 64) ∧ S 15 v.toNatClampNeg 2 = x)) := cho_v h x 64 65 (-1) 0 0 (by omega) (by omega) (Or.inl rfl)
/-- a step is opened -/
theorem op_r (h : rR n S A G T B) {k b o m : Int32} (hk : 0 ≤ k.toInt ∧ k.toInt ≤ 3) (hb : 0 ≤ b.toInt ∧ b.toInt < 64) (ho0 : k = 0 → 0 ≤ o.toInt ∧ o.toInt < (S 0 0 13).toInt) (ho1 : ¬ k = 0 → o = -1) (hF1 : k = 1 → (S 15 b.toNatClampNeg 3).toInt < 6) (hF2 : ¬ k = 1 → ¬ S 15 b.toNatClampNeg 2 = -1) : rR n (up3 (up3 (O4_open S A G k b o (S 0 0 8)).1 5 0 4 m) 0 0 10 (S 0 0 8)) A G (up3 (up3 (up3 (up3 (up3 (up3 (up3 (up3 T 20 0 27 k) 20 0 28 b) 20 0 29 o) 20 0 30 (T 20 0 0)) 20 0 31 m) 20 0 32 0) 20 0 33 0) 20 0 7 (T 20 0 0)) B := by
  have t1 := h.1.1
  obtain ⟨g1, g2, g3, g4, g5, -, -, g8⟩ := h.acc
  have kn : ¬ k = -1 := fun z => by rw [z, ln1] at hk; omega
  refine ⟨g1, g2, g3, g4, g5, ⟨rfl, (by show -1 ≤ k.toInt ∧ k.toInt ≤ 3; omega), hb, fun z => absurd z kn, fun _ => ⟨rfl, rfl, t1, rfl, ho0, ho1, fun _ => ⟨Iff.rfl, fun _ => rfl⟩, fun z => absurd rfl z, fun _ => Iff.rfl⟩⟩, fun _ => ⟨fun z _ => hF1 z, hF2⟩, g8⟩
theorem op_c {o6 : Int32 × sS × sS} {T1 B1 : sS} {v : Int32} (e : o6.1 = v) (h : rR n o6.2.1 o6.2.2 G T1 B1) : cg n G o6 (v, T1, B1) := ⟨e, h.mono⟩
theorem co_begin0 (h : rR n S A G T B) (x2 : Int32) : cg n G (O6_begin S A G 0 x2) (O7_begin T B G1 0 x2) := by
  have hL := h.2.2.2.2.2.2.2.1.1
  have hO := isOrder_eq (G1 := G1) h x2
  have hw0 := wat_0 (G1 := G1) h
  have hin : ¬ V7_in T B G1 0 0 3 = 0 := fun z => absurd (in0.mp z) (by decide)
  unfold O6_begin O7_begin V6_isTarget V6_wantsWitness
  simp only [if_neg hin, ↓reduceIte, if_neg (show ¬ (0 : Int32) = 1 by decide), if_neg (show ¬ (0 : Int32) = 3 by decide)]
  rw [← hO]
  by_cases c1 : V6_isOrder S A G x2 = 0
  · rw [if_pos c1, if_pos c1]; exact cg_no h _
  rw [if_neg c1, if_neg c1]
  have hx := isOrder_r c1
  have ho := ord_at h hx
  have oc := h.2.2.2.2.1.2.1
  have hq60 : x2.toNatClampNeg < 60 := by have := cl_i hx.1; omega
  have hir := h.2.2.2.2.1.2.2.2.2.1 _ hq60
  have e42 := ho.2.1
  rw [e42] at hir
  have hct := ctl h hir.1 hir.2 ho.2.2.1
  have hmt := mayT (G1 := G1) h hx
  obtain ⟨v, v1, v2, v3⟩ := cho_e (G1 := G1) h (S 14 x2.toNatClampNeg 0)
  rw [e42, v1, v2, ← hmt, hL, if_neg (show ¬ S 14 x2.toNatClampNeg 0 < 0 by simp only [Int32.lt_iff_toInt_lt, Int32.le_iff_toInt_le, ← Int32.toInt_inj, il0, il1, il2, il3, il4, il5, il6, il15, il16, il31, il32, il40, il60, il63, il64, il120, il290, il300, il1000, il10000, il100000, ln1, ln2, ln3, ln4, ln5, ln6, ln7, ln8, ln9, ln10]; omega)]
  by_cases w : S 0 0 9 = -1
  · have w' : ¬ 0 ≤ T 20 0 6 := fun z => (who_ge h).mp z w
    simp only [if_pos w, if_neg w', ite_self]; exact cg_no h _
  have w' := (who_ge h).mpr w
  simp only [if_neg w, if_pos w']
  by_cases r : V6_isHandlerIn S A G = 0
  · simp only [if_pos r, if_pos ((hand h w).mp r), ite_self]; exact cg_no h _
  simp only [if_neg r, if_neg (fun z => r ((hand h w).mpr z))]
  by_cases a : S 5 0 0 = -1
  · have a1 := opn (S := S) (A := A) (G := G) |>.mpr a
    simp only [if_pos a1, if_pos ((act_lt h).mpr a)]
    -- behind the witness
    have main : ∀ m : Int32, (m = if V6_isControlled S A G (S 14 x2.toNatClampNeg 0) = 0 then 0 else 1) → cg n G (if V3_mayTake S A G x2.toNatClampNeg (S 0 0 8) = 0 then ((-6 : Int32), S, A) else if v = -1 then (-7, S, A) else if 290 ≤ S 6 0 1 then (-8, S, A) else O6_begin_190 (O4_open S A G 0 v x2 (S 0 0 8)).1 (O4_open S A G 0 v x2 (S 0 0 8)).2 G 0 x2 v) (if V3_mayTake S A G x2.toNatClampNeg (S 0 0 8) = 0 then (-6, T, B) else if 0 ≤ v then if 290 ≤ S 6 0 1 then (-8, T, B) else (v, up3 (up3 (up3 (up3 (up3 (up3 (up3 (up3 T 20 0 27 0) 20 0 28 v) 20 0 29 x2) 20 0 30 (T 20 0 0)) 20 0 31 m) 20 0 32 0) 20 0 33 0) 20 0 7 (T 20 0 0), B) else (-7, T, B)) := fun m hm => by
      by_cases d1 : V3_mayTake S A G x2.toNatClampNeg (S 0 0 8) = 0
      · rw [if_pos d1, if_pos d1]; exact cg_no h _
      rw [if_neg d1, if_neg d1]
      rcases v3 with d2 | ⟨d2, d3⟩
      · rw [if_pos d2, if_neg (by rw [d2]; decide)]; exact cg_no h _
      have d4 : ¬ v = -1 := fun z => by rw [z, ln1] at d2; omega
      rw [if_neg d4, if_pos (show 0 ≤ v by simp only [Int32.lt_iff_toInt_lt, Int32.le_iff_toInt_le, ← Int32.toInt_inj, il0, il1, il2, il3, il4, il5, il6, il15, il16, il31, il32, il40, il60, il63, il64, il120, il290, il300, il1000, il10000, il100000, ln1, ln2, ln3, ln4, ln5, ln6, ln7, ln8, ln9, ln10]; omega)]
      by_cases d5 : 290 ≤ S 6 0 1
      · rw [if_pos d5, if_pos d5]; exact cg_no h _
      rw [if_neg d5, if_neg d5]
      have op := fun m => op_r (m := m) h (k := 0) (b := v) (o := x2) (by decide) d2 (fun _ => hx) (fun z => absurd rfl z) (fun z => absurd z (by decide)) (fun _ z => by rw [d3] at z; rw [z, ln1] at hir; omega)
      have ec : V6_isControlled (O4_open S A G 0 v x2 (S 0 0 8)).1 (O4_open S A G 0 v x2 (S 0 0 8)).2 G ((O4_open S A G 0 v x2 (S 0 0 8)).1 15 v.toNatClampNeg 2) = V6_isControlled S A G (S 14 x2.toNatClampNeg 0) := by
        rw [← d3]; rfl
      unfold O6_begin_190
      rw [if_neg (show ¬ (0 : Int32) = 2 by decide), if_neg (show ¬ (0 : Int32) = 1 by decide), ec, hm]
      by_cases k : V6_isControlled S A G (S 14 x2.toNatClampNeg 0) = 0
      · rw [if_pos k, if_pos k]; exact op_c rfl (op 0)
      · rw [if_neg k, if_neg k]; exact op_c rfl (op 1)
    by_cases k : V6_isControlled S A G (S 14 x2.toNatClampNeg 0) = 0
    · have q := main 0 (by rw [if_pos k])
      simp only [if_pos k, if_pos (hct.mp k), ↓reduceIte]
      exact q
    · have q := main 1 (by rw [if_neg k])
      simp only [if_neg k, if_neg (fun z => k (hct.mpr z)), if_neg n10]
      by_cases y : S 0 0 11 = -1
      · rw [if_pos y, if_pos (hw0.mpr y)]; exact cg_no h _
      · rw [if_neg y, if_neg (fun z => y (hw0.mp z))]; exact q
  · have a1 : ¬ V4_isOpen S A G = 0 := fun z => a (opn.mp z)
    simp only [if_neg a1, if_neg (fun z => a ((act_lt h).mp z)), ite_self]; exact cg_no h _
theorem co_begin1 (h : rR n S A G T B) (x2 : Int32) : cg n G (O6_begin S A G 1 x2) (O7_begin T B G1 1 x2) := by
  have hL := h.2.2.2.2.2.2.2.1.1
  have hB := isBin_eq (S := S) (A := A) (G := G) (T := T) (B := B) (G1 := G1) x2
  have hin : ¬ V7_in T B G1 1 0 3 = 0 := fun z => absurd (in0.mp z) (by decide)
  unfold O6_begin O7_begin V6_isTarget V6_wantsWitness
  simp only [if_neg hin, ↓reduceIte, if_neg (show ¬ (1 : Int32) = 0 by decide), if_neg (show ¬ (1 : Int32) = 3 by decide), if_pos (show (1 : Int32) ≤ 1 by decide), ite_self]
  rw [← hB]
  by_cases c1 : V6_isBin S A G x2 = 0
  · rw [if_pos c1, if_pos c1]; exact cg_no h _
  rw [if_neg c1, if_neg c1, hL]
  have hx := isBin_r c1
  obtain ⟨-, e36, -, -, -, ⟨l0, l6⟩, -⟩ := h.2.2.2.1 _ (cl_lt hx.1 hx.2)
  by_cases w : S 0 0 9 = -1
  · have w' : ¬ 0 ≤ T 20 0 6 := fun z => (who_ge h).mp z w
    simp only [if_pos w, if_neg w', ite_self]; exact cg_no h _
  have w' := (who_ge h).mpr w
  simp only [if_neg w, if_pos w', ite_self]
  by_cases r : V6_isPharmacistIn S A G = 0
  · rw [if_pos r, if_neg ((phar h w).mp r)]; exact cg_no h _
  rw [if_neg r, if_pos (Classical.byContradiction fun z => r ((phar h w).mpr z))]
  by_cases a : S 5 0 0 = -1
  · have a1 := opn (S := S) (A := A) (G := G) |>.mpr a
    have x0 : ¬ x2 = -1 := fun z => by rw [z, ln1] at hx; omega
    rw [if_pos a1, if_pos ((act_lt h).mpr a), if_neg x0, if_pos (show 0 ≤ x2 by simp only [Int32.lt_iff_toInt_lt, Int32.le_iff_toInt_le, ← Int32.toInt_inj, il0, il1, il2, il3, il4, il5, il6, il15, il16, il31, il32, il40, il60, il63, il64, il120, il290, il300, il1000, il10000, il100000, ln1, ln2, ln3, ln4, ln5, ln6, ln7, ln8, ln9, ln10]; omega), e36]
    by_cases d5 : 290 ≤ S 6 0 1
    · rw [if_pos d5, if_pos d5]; exact cg_no h _
    rw [if_neg d5, if_neg d5]
    by_cases d6 : S 15 x2.toNatClampNeg 3 < 6
    · rw [if_pos d6, if_neg (show ¬ S 15 x2.toNatClampNeg 3 = 6 by simp only [Int32.lt_iff_toInt_lt, Int32.le_iff_toInt_le, ← Int32.toInt_inj, il0, il1, il2, il3, il4, il5, il6, il15, il16, il31, il32, il40, il60, il63, il64, il120, il290, il300, il1000, il10000, il100000, ln1, ln2, ln3, ln4, ln5, ln6, ln7, ln8, ln9, ln10] at d6 ⊢; omega)]
      unfold O6_begin_190
      rw [if_neg (show ¬ (1 : Int32) = 2 by decide), if_pos rfl]
      exact op_c rfl (op_r (m := 0) h (k := 1) (b := x2) (o := -1) (by decide) hx (fun z => absurd z n10) (fun _ => rfl) (fun _ => by simp only [Int32.lt_iff_toInt_lt, Int32.le_iff_toInt_le, ← Int32.toInt_inj, il0, il1, il2, il3, il4, il5, il6, il15, il16, il31, il32, il40, il60, il63, il64, il120, il290, il300, il1000, il10000, il100000, ln1, ln2, ln3, ln4, ln5, ln6, ln7, ln8, ln9, ln10] at d6; omega) (fun z => absurd rfl z))
    · rw [if_neg d6, if_pos (show S 15 x2.toNatClampNeg 3 = 6 by simp only [Int32.lt_iff_toInt_lt, Int32.le_iff_toInt_le, ← Int32.toInt_inj, il0, il1, il2, il3, il4, il5, il6, il15, il16, il31, il32, il40, il60, il63, il64, il120, il290, il300, il1000, il10000, il100000, ln1, ln2, ln3, ln4, ln5, ln6, ln7, ln8, ln9, ln10] at d6 ⊢; omega)]; exact cg_no h _
  · have a1 : ¬ V4_isOpen S A G = 0 := fun z => a (opn.mp z)
    rw [if_neg a1, if_neg (fun z => a ((act_lt h).mp z))]; exact cg_no h _
theorem co_begin2 (h : rR n S A G T B) (x2 : Int32) : cg n G (O6_begin S A G 2 x2) (O7_begin T B G1 2 x2) := by
  have hL := h.2.2.2.2.2.2.2.1.1
  have hB := isBin_eq (S := S) (A := A) (G := G) (T := T) (B := B) (G1 := G1) x2
  have hin : ¬ V7_in T B G1 2 0 3 = 0 := fun z => absurd (in0.mp z) (by decide)
  unfold O6_begin O7_begin V6_isTarget V6_wantsWitness
  simp only [if_neg hin, ↓reduceIte, if_neg (show ¬ (2 : Int32) = 0 by decide), if_neg (show ¬ (2 : Int32) = 3 by decide), if_neg (show ¬ (2 : Int32) = 1 by decide), if_neg (show ¬ (2 : Int32) ≤ 1 by decide), ite_self]
  rw [← hB]
  by_cases c1 : V6_isBin S A G x2 = 0
  · simp only [if_pos c1, ↓reduceIte]; exact cg_no h _
  simp only [if_neg c1]
  have hx := isBin_r c1
  obtain ⟨e35, -, -, -, q5, -⟩ := h.2.2.2.1 _ (cl_lt hx.1 hx.2)
  rw [hL, e35]
  by_cases c2 : S 15 x2.toNatClampNeg 2 = -1
  · rw [if_pos c2, if_pos rfl, if_neg (show ¬ 0 ≤ S 15 x2.toNatClampNeg 2 by rw [c2]; decide)]; exact cg_no h _
  have hi := q5.resolve_left (fun z => c2 z.1)
  rw [if_neg c2, if_neg n10, if_pos (show 0 ≤ S 15 x2.toNatClampNeg 2 by simp only [Int32.lt_iff_toInt_lt, Int32.le_iff_toInt_le, ← Int32.toInt_inj, il0, il1, il2, il3, il4, il5, il6, il15, il16, il31, il32, il40, il60, il63, il64, il120, il290, il300, il1000, il10000, il100000, ln1, ln2, ln3, ln4, ln5, ln6, ln7, ln8, ln9, ln10]; omega)]
  by_cases w : S 0 0 9 = -1
  · have w' : ¬ 0 ≤ T 20 0 6 := fun z => (who_ge h).mp z w
    simp only [if_pos w, if_neg w', ite_self]; exact cg_no h _
  have w' := (who_ge h).mpr w
  simp only [if_neg w, if_pos w', ite_self]
  by_cases r : V6_isHandlerIn S A G = 0
  · simp only [if_pos r, if_pos ((hand h w).mp r), ite_self]; exact cg_no h _
  simp only [if_neg r, if_neg (fun z => r ((hand h w).mpr z)), ite_self]
  by_cases a : S 5 0 0 = -1
  · have a1 := opn (S := S) (A := A) (G := G) |>.mpr a
    have x0 : ¬ x2 = -1 := fun z => by rw [z, ln1] at hx; omega
    rw [if_pos a1, if_pos ((act_lt h).mpr a), if_neg x0, if_pos (show 0 ≤ x2 by simp only [Int32.lt_iff_toInt_lt, Int32.le_iff_toInt_le, ← Int32.toInt_inj, il0, il1, il2, il3, il4, il5, il6, il15, il16, il31, il32, il40, il60, il63, il64, il120, il290, il300, il1000, il10000, il100000, ln1, ln2, ln3, ln4, ln5, ln6, ln7, ln8, ln9, ln10]; omega)]
    by_cases d5 : 290 ≤ S 6 0 1
    · rw [if_pos d5, if_pos d5]; exact cg_no h _
    rw [if_neg d5, if_neg d5]
    unfold O6_begin_190
    rw [if_pos rfl]
    exact op_c rfl (op_r (m := 1) h (k := 2) (b := x2) (o := -1) (by decide) hx (fun z => absurd z (by decide)) (fun _ => rfl) (fun z => absurd z (by decide)) (fun _ => c2))
  · have a1 : ¬ V4_isOpen S A G = 0 := fun z => a (opn.mp z)
    rw [if_neg a1, if_neg (fun z => a ((act_lt h).mp z))]; exact cg_no h _
theorem co_begin3 (h : rR n S A G T B) (x2 : Int32) : cg n G (O6_begin S A G 3 x2) (O7_begin T B G1 3 x2) := by
  have hL := h.2.2.2.2.2.2.2.1.1
  have hw0 := wat_0 (G1 := G1) h
  have hB := isBin_eq (S := S) (A := A) (G := G) (T := T) (B := B) (G1 := G1) x2
  have hin : ¬ V7_in T B G1 3 0 3 = 0 := fun z => absurd (in0.mp z) (by decide)
  unfold O6_begin O7_begin V6_isTarget V6_wantsWitness
  simp only [if_neg hin, ↓reduceIte, if_neg (show ¬ (3 : Int32) = 0 by decide), if_neg (show ¬ (3 : Int32) = 2 by decide), if_neg (show ¬ (3 : Int32) = 1 by decide), if_neg (show ¬ (3 : Int32) ≤ 1 by decide), if_neg n10]
  rw [← hB]
  by_cases c1 : V6_isBin S A G x2 = 0
  · simp only [if_pos c1, ↓reduceIte]; exact cg_no h _
  simp only [if_neg c1]
  have hx := isBin_r c1
  obtain ⟨e35, -, -, -, q5, -⟩ := h.2.2.2.1 _ (cl_lt hx.1 hx.2)
  rw [hL, e35]
  by_cases c2 : S 15 x2.toNatClampNeg 2 = -1
  · rw [if_pos c2, if_pos rfl, if_neg (show ¬ 0 ≤ S 15 x2.toNatClampNeg 2 by rw [c2]; decide)]; exact cg_no h _
  have hi := q5.resolve_left (fun z => c2 z.1)
  have hct := ctl h hi.1 hi.2.1 hi.2.2
  rw [if_neg c2, if_neg n10, if_pos (show 0 ≤ S 15 x2.toNatClampNeg 2 by simp only [Int32.lt_iff_toInt_lt, Int32.le_iff_toInt_le, ← Int32.toInt_inj, il0, il1, il2, il3, il4, il5, il6, il15, il16, il31, il32, il40, il60, il63, il64, il120, il290, il300, il1000, il10000, il100000, ln1, ln2, ln3, ln4, ln5, ln6, ln7, ln8, ln9, ln10]; omega)]
  by_cases w : S 0 0 9 = -1
  · have w' : ¬ 0 ≤ T 20 0 6 := fun z => (who_ge h).mp z w
    simp only [if_pos w, if_neg w', ite_self]; exact cg_no h _
  have w' := (who_ge h).mpr w
  simp only [if_neg w, if_pos w']
  by_cases r : V6_isHandlerIn S A G = 0
  · simp only [if_pos r, if_pos ((hand h w).mp r), ite_self]; exact cg_no h _
  simp only [if_neg r, if_neg (fun z => r ((hand h w).mpr z))]
  by_cases a : S 5 0 0 = -1
  · have a1 := opn (S := S) (A := A) (G := G) |>.mpr a
    have x0 : ¬ x2 = -1 := fun z => by rw [z, ln1] at hx; omega
    have x0' : 0 ≤ x2 := by simp only [Int32.lt_iff_toInt_lt, Int32.le_iff_toInt_le, ← Int32.toInt_inj, il0, il1, il2, il3, il4, il5, il6, il15, il16, il31, il32, il40, il60, il63, il64, il120, il290, il300, il1000, il10000, il100000, ln1, ln2, ln3, ln4, ln5, ln6, ln7, ln8, ln9, ln10]; omega
    simp only [if_pos a1, if_pos ((act_lt h).mpr a), if_neg x0, if_pos x0']
    by_cases y : S 0 0 11 = -1
    · simp only [if_pos y, if_pos (hw0.mpr y), ite_self]; exact cg_no h _
    simp only [if_neg y, if_neg (fun z => y (hw0.mp z))]
    by_cases d5 : 290 ≤ S 6 0 1
    · simp only [if_pos d5, ite_self]; exact cg_no h _
    simp only [if_neg d5]
    have op := fun m => op_r (m := m) h (k := 3) (b := x2) (o := -1) (by decide) hx (fun z => absurd z (by decide)) (fun _ => rfl) (fun z => absurd z (by decide)) (fun _ => c2)
    have ec : V6_isControlled (O4_open S A G 3 x2 (-1) (S 0 0 8)).1 (O4_open S A G 3 x2 (-1) (S 0 0 8)).2 G ((O4_open S A G 3 x2 (-1) (S 0 0 8)).1 15 x2.toNatClampNeg 2) = V6_isControlled S A G (S 15 x2.toNatClampNeg 2) := rfl
    unfold O6_begin_190
    rw [if_neg (show ¬ (3 : Int32) = 2 by decide), if_neg (show ¬ (3 : Int32) = 1 by decide), ec]
    by_cases k : V6_isControlled S A G (S 15 x2.toNatClampNeg 2) = 0
    · rw [if_pos k, if_pos (hct.mp k)]; exact op_c rfl (op 0)
    · rw [if_neg k, if_neg (fun z => k (hct.mpr z))]; exact op_c rfl (op 1)
  · have a1 : ¬ V4_isOpen S A G = 0 := fun z => a (opn.mp z)
    simp only [if_neg a1, if_neg (fun z => a ((act_lt h).mp z)), ite_self]; exact cg_no h _
theorem co_begin (h : rR n S A G T B) (x1 x2 : Int32) : cg n G (O6_begin S A G x1 x2) (O7_begin T B G1 x1 x2) := by
  by_cases c0 : x1 = 0
  · rw [c0]; exact co_begin0 h x2
  by_cases c1 : x1 = 1
  · rw [c1]; exact co_begin1 h x2
  by_cases c2 : x1 = 2
  · rw [c2]; exact co_begin2 h x2
  by_cases c3 : x1 = 3
  · rw [c3]; exact co_begin3 h x2
  have hin : V7_in T B G1 x1 0 3 = 0 := in0.mpr (by simp only [Int32.lt_iff_toInt_lt, Int32.le_iff_toInt_le, ← Int32.toInt_inj, il0, il1, il2, il3, il4, il5, il6, il15, il16, il31, il32, il40, il60, il63, il64, il120, il290, il300, il1000, il10000, il100000, ln1, ln2, ln3, ln4, ln5, ln6, ln7, ln8, ln9, ln10] at c0 c1 c2 c3 ⊢; omega)
  have ht : V6_isTarget S A G x1 x2 = 0 := by
    unfold V6_isTarget
    rw [if_neg c0, if_neg c1, if_neg c2, if_neg c3]
  unfold O6_begin O7_begin
  rw [if_pos hin, if_pos ht]
  exact cg_no h _
end BEGIN
