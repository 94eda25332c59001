/-! amount, its three kinds -/
section AMOUNT2
variable {n : Nat} {S A : sS} {G : sG} {T B : sS} {G1 : sG}
theorem fBB_t {b : Nat} {A A1 A2 : sS} (h : fBB b A A1) (h2 : fBB b A1 A2) : fBB b A A2 := fun f n k z => (h2 f n k z).trans (h f n k z)
theorem am_fill (h : rR n S A G T B) (hk : S 5 0 0 = 1) (h6 : S 5 0 6 = 0) (hs : (S 6 0 1).toInt < 300) {x1 x2 x3 z : Int32} (hx1 : 0 < x1.toInt ∧ x1.toInt ≤ 10000) (hi : 0 ≤ x2.toInt ∧ x2.toInt < 32 ∧ ¬ G 2 x2.toNatClampNeg = none) : cg n G (O6_amount_172 (O6_letIn S A G ((S 5 0 1).toNatClampNeg) x1 x2 x3).1 (O6_letIn S A G ((S 5 0 1).toNatClampNeg) x1 x2 x3).2 G x1 x2 x3 ((S 5 0 1).toNatClampNeg)) (O7_amount_69 (O7_putLot (up3 T 20 0 33 1) (up3 B 35 0 ((T 20 0 28).toNatClampNeg) x2) G1 (T 20 0 28) x3 x1).1 (O7_putLot (up3 T 20 0 33 1) (up3 B 35 0 ((T 20 0 28).toNatClampNeg) x2) G1 (T 20 0 28) x3 x1).2 G1 x1 x2 x3 z (T 20 0 28)) := by
  have ho : ¬ S 5 0 0 = -1 := by rw [hk]; decide
  have e28 := (h.2.2.2.2.2.1.2.2.2.2 ho).1
  have hx : 0 ≤ (T 20 0 28).toInt ∧ (T 20 0 28).toInt < 64 := h.2.2.2.2.2.1.2.2.1
  have hb : (S 5 0 1).toNatClampNeg < 64 := by rw [← e28]; exact cl_lt hx.1 hx.2
  have h27 : T 20 0 27 = 1 := h.2.2.2.2.2.1.1.trans hk
  have hl6 := (h.2.2.2.2.2.2.1 ho).1 hk h6
  obtain ⟨q1, q2, q3, q4, q5, hlot⟩ := h.2.2.2.1 _ hb
  obtain ⟨A1, B1, v, r1, r2, r3, r4, r5, r6⟩ := add_v (S := up3 S 15 (S 5 0 1).toNatClampNeg 2 x2) (T := up3 T 20 0 33 1) (G := G) (G1 := G1) (x := S 5 0 1) (A := A) (B := up3 B 35 0 (S 5 0 1).toNatClampNeg x2) (am := x1) (ex := x3) q2 hlot hl6 hx1
  have h1 : rR n (up3 (up3 (up3 S 15 (S 5 0 1).toNatClampNeg 2 x2) 15 (S 5 0 1).toNatClampNeg 3 v) 5 0 6 1) A1 G (up3 T 20 0 33 1) B1 := by
    rw [up3_c (f1 := 5) (fun z => absurd z.1 (by decide)), up3_c (f1 := 5) (fun z => absurd z.1 (by decide))]
    refine h.tld.bin (S1 := up3 (up3 (up3 S 5 0 6 1) 15 (S 5 0 1).toNatClampNeg 2 x2) 15 (S 5 0 1).toNatClampNeg 3 v) (fS_u (fS_u fS_r)) r3 (fBB_t (fBB_35 (fB_BB fB_r)) (fB_BB r4)) ?_ (fun _ => ⟨fun _ z => absurd z n10, fun z => absurd hk z⟩)
    have s2 : up3 (up3 (up3 S 5 0 6 1) 15 (S 5 0 1).toNatClampNeg 2 x2) 15 (S 5 0 1).toNatClampNeg 3 v 15 (S 5 0 1).toNatClampNeg 2 = x2 := up3_s (S := up3 S 5 0 6 1) (f := 15) (n := (S 5 0 1).toNatClampNeg) (k := 2)
    have s3 : up3 (up3 (up3 S 5 0 6 1) 15 (S 5 0 1).toNatClampNeg 2 x2) 15 (S 5 0 1).toNatClampNeg 3 v 15 (S 5 0 1).toNatClampNeg 3 = v := up3_s
    have b35 : B1 35 0 (S 5 0 1).toNatClampNeg = x2 := (r4 _ _ _ (fun z => by omega)).trans up3_s
    have b39 : B1 39 0 (S 5 0 1).toNatClampNeg = B 39 0 (S 5 0 1).toNatClampNeg := r4 _ _ _ (fun z => by omega)
    have b40 : B1 40 0 (S 5 0 1).toNatClampNeg = B 40 0 (S 5 0 1).toNatClampNeg := r4 _ _ _ (fun z => by omega)
    unfold rB1
    rw [s2, s3]
    exact ⟨b35, r5, b39.trans q3, b40.trans q4, Or.inr hi, r6⟩
  have h2 := am_fin (G1 := G1) h1 hs (kd := 1) (b := S 5 0 1) (u := x1) (o := -1) (Or.inr (Or.inl rfl))
  have h3 := am_book (G1 := G1) h2 hx e28
  have n27 : ¬ (O7_note (up3 T 20 0 33 1) B1 G1 1 (S 5 0 1) x1 (-1)).1 20 0 27 = 0 := fun z => by
    have z' : T 20 0 27 = 0 := z
    rw [h27] at z'
    exact absurd z' n10
  unfold O6_letIn O6_letIn_12 O6_letIn_37
  rw [e28, r1, r2]
  dsimp only
  rw [wr_eq (S := up3 (up3 S 15 (S 5 0 1).toNatClampNeg 2 x2) 15 (S 5 0 1).toNatClampNeg 3 v) (sz_lt hs)]
  unfold O7_amount_69 O7_amount_78 O7_amount_124
  rw [if_neg n27]
  rw [e28] at h3
  exact ⟨h3, h2.mono⟩
theorem am_waste (h : rR n S A G T B) (hk : S 5 0 0 = 3) (hs : (S 6 0 1).toInt < 300) {x1 x2 x3 z : Int32} (hx1 : 0 ≤ x1.toInt) : cg n G (O6_amount_202 (O6_wasteFrom S A G ((S 5 0 1).toNatClampNeg) x1).1 (O6_wasteFrom S A G ((S 5 0 1).toNatClampNeg) x1).2 G x1 x2 x3 ((S 5 0 1).toNatClampNeg)) (O7_amount_101 (O7_takeUnits (up3 T 20 0 33 1) B G1 (T 20 0 28) x1 1).1 (O7_takeUnits (up3 T 20 0 33 1) B G1 (T 20 0 28) x1 1).2 G1 x1 x2 x3 z (T 20 0 28)) := by
  have ho : ¬ S 5 0 0 = -1 := by rw [hk]; decide
  have hk1 : ¬ S 5 0 0 = 1 := by rw [hk]; decide
  have hk0 : ¬ S 5 0 0 = 0 := by rw [hk]; decide
  obtain ⟨e28, e29, -, -, -, q6, -⟩ := h.2.2.2.2.2.1.2.2.2.2 ho
  have e29' : T 20 0 29 = -1 := e29.trans (q6 hk0)
  have hx : 0 ≤ (T 20 0 28).toInt ∧ (T 20 0 28).toInt < 64 := h.2.2.2.2.2.1.2.2.1
  have hb : (S 5 0 1).toNatClampNeg < 64 := by rw [← e28]; exact cl_lt hx.1 hx.2
  have h27 : T 20 0 27 = 3 := h.2.2.2.2.2.1.1.trans hk
  obtain ⟨q1, q2, q3, q4, q5, hlot⟩ := h.2.2.2.1 _ hb
  obtain ⟨A1, B1, v, r1, r2, r3, r4, r5, r6⟩ := take_v (S := S) (T := up3 T 20 0 33 1) (G := G) (G1 := G1) (x := S 5 0 1) (A := A) (B := B) (z0 := x1) (x3 := 1) (p := 0) q2 hlot hx1 hlot.1.1 (fun k _ => ⟨fun z => absurd z.1 n10, fun z => by omega⟩)
  have h1 := am_bin h hb ho hk1 r3 r4 r5 r6
  have h2 := am_fin (G1 := G1) h1 hs (kd := 4) (b := S 5 0 1) (u := x1) (o := -1) (Or.inr (Or.inr (Or.inr (Or.inr rfl))))
  have h3 := am_book (G1 := G1) h2 hx e28
  have n27 : ¬ (O7_note (up3 T 20 0 33 1) B1 G1 4 (S 5 0 1) x1 (-1)).1 20 0 27 = 0 := fun z => by
    have z' : T 20 0 27 = 0 := z
    rw [h27] at z'
    exact absurd z' (by decide)
  have n27' : ¬ up3 T 20 0 33 1 20 0 27 = 0 := n27
  have n29 : up3 T 20 0 33 1 20 0 29 = -1 := e29'
  unfold O6_wasteFrom O6_wasteFrom_6 O6_wasteFrom_31
  rw [e28, show (0 : Int32) = nI 0 from rfl, r1, r2]
  dsimp only
  rw [wr_eq (S := up3 S 15 (S 5 0 1).toNatClampNeg 3 v) (sz_lt hs)]
  unfold O7_amount_101
  rw [if_neg n27', n29]
  unfold O7_amount_124
  rw [if_neg n27]
  rw [e28] at h3
  exact ⟨h3, h2.mono⟩
theorem am_take (h : rR n S A G T B) (hk : S 5 0 0 = 0) (hs : (S 6 0 1).toInt < 300) {x1 x2 x3 z : Int32} (hx1 : 0 ≤ x1.toInt) : cg n G (O6_amount_192 (O6_takeOut S A G ((S 5 0 1).toNatClampNeg) x1).1 (O6_takeOut S A G ((S 5 0 1).toNatClampNeg) x1).2 G x1 x2 x3 ((S 5 0 1).toNatClampNeg)) (O7_amount_101 (O7_takeUnits (up3 T 20 0 33 1) B G1 (T 20 0 28) x1 0).1 (O7_takeUnits (up3 T 20 0 33 1) B G1 (T 20 0 28) x1 0).2 G1 x1 x2 x3 z (T 20 0 28)) := by
  have ho : ¬ S 5 0 0 = -1 := by rw [hk]; decide
  have hk1 : ¬ S 5 0 0 = 1 := by rw [hk]; decide
  obtain ⟨e28, e29, -, -, q5', -⟩ := h.2.2.2.2.2.1.2.2.2.2 ho
  have hq := q5' hk
  have hqc : ((S 5 0 2).toNatClampNeg : Int) < (S 0 0 13).toInt := by have := cl_i hq.1; omega
  have hx : 0 ≤ (T 20 0 28).toInt ∧ (T 20 0 28).toInt < 64 := h.2.2.2.2.2.1.2.2.1
  have hb : (S 5 0 1).toNatClampNeg < 64 := by rw [← e28]; exact cl_lt hx.1 hx.2
  have h27 : T 20 0 27 = 0 := h.2.2.2.2.2.1.1.trans hk
  obtain ⟨q1, q2, q3, q4, q5, hlot⟩ := h.2.2.2.1 _ hb
  obtain ⟨l, p, bk, gv, hl, hl6, hpl, hfg, hfP, -⟩ := bin_v (G1 := G1) h hx
  rw [e28] at hl hfg hfP
  obtain ⟨f1, f2, f3⟩ := hfP
  obtain ⟨A1, B1, v, r1, r2, r3, r4, r5, r6⟩ := take_v (S := S) (T := up3 T 20 0 33 1) (G := G) (G1 := G1) (x := S 5 0 1) (A := A) (B := B) (z0 := x1) (x3 := 0) (p := p) q2 hlot hx1 f1 (fun k hk => by
    have t1 : up3 T 20 0 33 1 20 0 0 = S 0 0 8 := h.1.1
    rw [t1]
    constructor
    · intro z
      refine Nat.not_le.mp (fun y => ?_)
      have y1 := f3 (by omega)
      have y2 := hlot.2.2 p k y hk
      have y3 := le_i z.2
      omega
    · intro z
      exact ⟨rfl, Int32.le_iff_toInt_le.mpr (f2 k z)⟩)
  have h1 := am_bin h hb ho hk1 r3 r4 r5 r6
  unfold O6_takeOut
  rw [e28, hfg, r1, r2]
  unfold O6_takeOut_13 O6_takeOut_33 O6_takeOut_64 O3_take
  unfold O7_amount_101
  dsimp only
  have p27 : up3 T 20 0 33 1 20 0 27 = 0 := h27
  have e29' : up3 T 20 0 33 1 20 0 29 = S 5 0 2 := e29
  rw [if_pos p27, e29']
  by_cases c : x1 ≤ 0
  · have x0 : x1 = 0 := Int32.toInt_inj.mp (by have := le_i c; rw [il0] at this ⊢; omega)
    subst x0
    rw [if_pos c, Int32.sub_zero]
    dsimp only
    have q29 : up3 S 15 (S 5 0 1).toNatClampNeg 3 v 5 0 2 = S 5 0 2 := rfl
    rw [up3_e, wr_eq (S := up3 S 15 (S 5 0 1).toNatClampNeg 3 v) (sz_lt hs)]
    have h2 := am_fin (G1 := G1) h1 hs (kd := 2) (b := S 5 0 1) (u := 0) (o := S 5 0 2) (Or.inr (Or.inr (Or.inl rfl)))
    have h3 := am_book (G1 := G1) h2 hx e28
    unfold O7_amount_124
    rw [if_pos (show (O7_note (up3 T 20 0 33 1) B1 G1 2 (S 5 0 1) 0 (S 5 0 2)).1 20 0 27 = 0 from h27), if_pos c]
    rw [e28] at h3
    exact ⟨h3, h2.mono⟩
  · rw [if_neg c]
    dsimp only
    have h1' := h1.ord (q := (S 5 0 2).toNatClampNeg) hqc (x1 := x1)
    have h1'' : rR n (up3 (up3 (up3 (up3 (up3 S 15 (S 5 0 1).toNatClampNeg 3 v) 14 (S 5 0 2).toNatClampNeg 3 (S 14 (S 5 0 2).toNatClampNeg 3 - x1)) 14 (S 5 0 2).toNatClampNeg 5 1) 14 (S 5 0 2).toNatClampNeg 6 (S 0 0 8)) 5 0 6 1) A1 G (up3 T 20 0 33 1) (up3 (up3 B1 43 0 (S 5 0 2).toNatClampNeg (B1 43 0 (S 5 0 2).toNatClampNeg - x1)) 47 0 (S 5 0 2).toNatClampNeg (T 20 0 0)) := by
      rw [up3_c (f1 := 5) (fun z => absurd z.1 (by decide)), up3_c (f1 := 5) (fun z => absurd z.1 (by decide)), up3_c (f1 := 5) (fun z => absurd z.1 (by decide))]
      exact h1'
    have h2 := am_fin (G1 := G1) h1'' hs (kd := 2) (b := S 5 0 1) (u := x1) (o := S 5 0 2) (Or.inr (Or.inr (Or.inl rfl)))
    have h3 := am_book (G1 := G1) h2 hx e28
    have eN : (O7_note (up3 T 20 0 33 1) (up3 (up3 B1 43 0 (S 5 0 2).toNatClampNeg (B1 43 0 (S 5 0 2).toNatClampNeg - x1)) 47 0 (S 5 0 2).toNatClampNeg (T 20 0 0)) G1 2 (S 5 0 1) x1 (S 5 0 2)).2 = up3 (up3 (O7_note (up3 T 20 0 33 1) B1 G1 2 (S 5 0 1) x1 (S 5 0 2)).2 43 0 (S 5 0 2).toNatClampNeg (B1 43 0 (S 5 0 2).toNatClampNeg - x1)) 47 0 (S 5 0 2).toNatClampNeg (T 20 0 0) := by
      have w := w6_c (A := up3 B1 43 0 (S 5 0 2).toNatClampNeg (B1 43 0 (S 5 0 2).toNatClampNeg - x1)) (f := 56) (c := 0) (k := 6 * (T 20 0 34).toNatClampNeg) (f1 := 47) (n1 := 0) (k1 := (S 5 0 2).toNatClampNeg) (x1 := 2) (x2 := T 20 0 0) (x3 := T 20 0 6) (x4 := S 5 0 1) (x5 := x1) (x6 := S 5 0 2) (v := T 20 0 0) (by decide)
      rw [w6_c (f1 := 43) (by decide)] at w
      exact w
    rw [eN] at h2 h3
    have qn : ∀ w1 w2 w3 w4 w5 w6, O2_write (up3 (up3 (up3 (up3 S 15 (S 5 0 1).toNatClampNeg 3 v) 14 (S 5 0 2).toNatClampNeg 3 (S 14 (S 5 0 2).toNatClampNeg 3 - x1)) 14 (S 5 0 2).toNatClampNeg 5 1) 14 (S 5 0 2).toNatClampNeg 6 (S 0 0 8)) A1 G w1 w2 w3 w4 w5 w6 = (up3 (up3 (up3 (up3 (up3 S 15 (S 5 0 1).toNatClampNeg 3 v) 14 (S 5 0 2).toNatClampNeg 3 (S 14 (S 5 0 2).toNatClampNeg 3 - x1)) 14 (S 5 0 2).toNatClampNeg 5 1) 14 (S 5 0 2).toNatClampNeg 6 (S 0 0 8)) 6 0 1 (S 6 0 1 + 1), wrA A1 (6 * (S 6 0 1).toNatClampNeg) w1 w2 w3 w4 w5 w6) := fun w1 w2 w3 w4 w5 w6 => wr_eq (S := up3 (up3 (up3 (up3 S 15 (S 5 0 1).toNatClampNeg 3 v) 14 (S 5 0 2).toNatClampNeg 3 (S 14 (S 5 0 2).toNatClampNeg 3 - x1)) 14 (S 5 0 2).toNatClampNeg 5 1) 14 (S 5 0 2).toNatClampNeg 6 (S 0 0 8)) (sz_lt hs)
    have z2 : up3 S 15 (S 5 0 1).toNatClampNeg 3 v 5 0 2 = S 5 0 2 := rfl
    have z3 : up3 S 15 (S 5 0 1).toNatClampNeg 3 v 14 (S 5 0 2).toNatClampNeg 3 = S 14 (S 5 0 2).toNatClampNeg 3 := rfl
    have z8 : up3 S 15 (S 5 0 1).toNatClampNeg 3 v 0 0 8 = S 0 0 8 := rfl
    rw [z2, z3, z8, qn]
    unfold O7_amount_124
    rw [if_pos (show (O7_note (up3 T 20 0 33 1) B1 G1 2 (S 5 0 1) x1 (S 5 0 2)).1 20 0 27 = 0 from h27), if_neg c]
    have q29 : (O7_note (up3 T 20 0 33 1) B1 G1 2 (S 5 0 1) x1 (S 5 0 2)).1 20 0 29 = S 5 0 2 := e29
    have q43 : (O7_note (up3 T 20 0 33 1) B1 G1 2 (S 5 0 1) x1 (S 5 0 2)).2 43 0 (S 5 0 2).toNatClampNeg = B1 43 0 (S 5 0 2).toNatClampNeg := rfl
    have q0 : (O7_note (up3 T 20 0 33 1) B1 G1 2 (S 5 0 1) x1 (S 5 0 2)).1 20 0 0 = T 20 0 0 := rfl
    rw [q29, q43, q0]
    rw [e28] at h3
    exact ⟨h3, h2.mono⟩
theorem co_amount (h : rR n S A G T B) (x1 x2 x3 : Int32) : cg n G (O6_amount S A G x1 x2 x3) (O7_amount T B G1 x1 x2 x3) := by
  have hta := takesA h
  have hL := h.2.2.2.2.2.2.2.1.1
  have hL2 := h.2.2.2.2.2.2.2.1.2.1
  have h27 := h.2.2.2.2.2.1.1
  unfold O6_amount
  by_cases k1 : S 5 0 0 = 1
  · have hk : T 20 0 27 = 1 := h27.trans k1
    have ho : ¬ S 5 0 0 = -1 := by rw [k1]; decide
    have hR := rff (G1 := G1) h hk x1 x2 x3
    by_cases c1 : V6_isAmount S A G x1 x2 x3 = 0
    · rw [if_pos c1]; exact am_no h (by rw [hR, if_pos c1]) (by decide) (by decide)
    rw [if_neg c1] at hR ⊢
    by_cases w : S 0 0 9 = -1
    · rw [if_pos w]; exact am_no h (by rw [hR, if_neg (fun z => (who_ge h).mp z w)]) (by decide) (by decide)
    rw [if_neg w]
    rw [if_pos ((who_ge h).mpr w)] at hR
    by_cases t : V4_takesAmount S A G = 0
    · rw [if_pos t]
      have t' : ¬ T 20 0 33 = 0 ∨ (¬ T 20 0 31 = 0 ∧ T 20 0 32 = 0) := ((hta.mp t).resolve_left (by rw [hk]; decide)).resolve_left (by rw [hk]; decide)
      exact am_no h (by rw [hR, if_pos t']) (by decide) (by decide)
    have t' : ¬ (¬ T 20 0 33 = 0 ∨ (¬ T 20 0 31 = 0 ∧ T 20 0 32 = 0)) := fun z => t (hta.mpr (Or.inr (Or.inr z)))
    rw [if_neg t, if_neg (show ¬ S 5 0 0 = 0 by rw [k1]; decide), if_neg (show ¬ S 5 0 0 = 3 by rw [k1]; decide)]
    rw [if_neg t', hL] at hR
    by_cases c3 : S 6 0 1 < 300
    · rw [if_pos c3, if_pos k1]
      rw [if_neg (show ¬ S 6 0 1 = 300 by simp only [Int32.lt_iff_toInt_lt, Int32.le_iff_toInt_le, ← Int32.toInt_inj, il0, il1, il2, il3, il4, il5, il6, il15, il16, il31, il32, il40, il60, il63, il64, il120, il290, il300, il1000, il10000, il100000, ln1, ln2, ln3, ln4, ln5, ln6, ln7, ln8, ln9, ln10] at c3 ⊢; omega)] at hR
      have hs : (S 6 0 1).toInt < 300 := by simp only [Int32.lt_iff_toInt_lt, Int32.le_iff_toInt_le, ← Int32.toInt_inj, il0, il1, il2, il3, il4, il5, il6, il15, il16, il31, il32, il40, il60, il63, il64, il120, il290, il300, il1000, il10000, il100000, ln1, ln2, ln3, ln4, ln5, ln6, ln7, ln8, ln9, ln10] at c3; omega
      unfold O7_amount
      rw [hR, if_neg (show ¬ (0 : Int32) = -7 by decide), if_pos (show (0 : Int32) ≤ 0 by decide), if_pos hk]
      have h33 : T 20 0 33 = 0 := Classical.byContradiction fun z => t' (Or.inl z)
      have h6 : S 5 0 6 = 0 := (h.2.2.2.2.2.1.2.2.2.2 ho).2.2.2.1.symm.trans h33
      unfold V6_isAmount at c1
      by_cases d1 : x1 < 0
      · rw [if_pos d1] at c1; exact absurd rfl c1
      rw [if_neg d1] at c1
      by_cases d2 : x1 ≤ 1000
      · rw [if_pos d2, if_pos k1] at c1
        by_cases d3 : x1 ≤ 0
        · rw [if_pos d3] at c1; exact absurd rfl c1
        rw [if_neg d3] at c1
        by_cases d4 : x3 ≤ S 0 0 8
        · rw [if_pos d4] at c1; exact absurd rfl c1
        rw [if_neg d4] at c1
        by_cases d5 : V6_isItem S A G x2 = 0
        · rw [if_pos d5] at c1; exact absurd rfl c1
        exact am_fill h k1 h6 hs (by simp only [Int32.lt_iff_toInt_lt, Int32.le_iff_toInt_le, ← Int32.toInt_inj, il0, il1, il2, il3, il4, il5, il6, il15, il16, il31, il32, il40, il60, il63, il64, il120, il290, il300, il1000, il10000, il100000, ln1, ln2, ln3, ln4, ln5, ln6, ln7, ln8, ln9, ln10] at d2 d3; omega) (isItem_r d5)
      · rw [if_neg d2] at c1; exact absurd rfl c1
    · rw [if_neg c3]
      rw [if_pos (show S 6 0 1 = 300 by simp only [Int32.lt_iff_toInt_lt, Int32.le_iff_toInt_le, ← Int32.toInt_inj, il0, il1, il2, il3, il4, il5, il6, il15, il16, il31, il32, il40, il60, il63, il64, il120, il290, il300, il1000, il10000, il100000, ln1, ln2, ln3, ln4, ln5, ln6, ln7, ln8, ln9, ln10] at c3 ⊢; omega)] at hR
      exact am_no h hR (by decide) (by decide)
  · have hk : ¬ T 20 0 27 = 1 := fun z => k1 (h27.symm.trans z)
    have hR := rfo (B := B) (G1 := G1) hk x1 x2 x3
    have key : V6_isAmount S A G x1 x2 x3 = 0 ↔ V7_in T B G1 x1 0 1000 = 0 := by
      rw [in0]
      unfold V6_isAmount
      by_cases d1 : x1 < 0
      · rw [if_pos d1]; exact ⟨fun _ => Or.inl d1, fun _ => rfl⟩
      · rw [if_neg d1]
        by_cases d2 : x1 ≤ 1000
        · rw [if_pos d2, if_neg k1]; exact ⟨fun z => absurd z n10, fun z => z.elim (fun y => absurd y d1) (fun y => by simp only [Int32.lt_iff_toInt_lt, Int32.le_iff_toInt_le, ← Int32.toInt_inj, il0, il1, il2, il3, il4, il5, il6, il15, il16, il31, il32, il40, il60, il63, il64, il120, il290, il300, il1000, il10000, il100000, ln1, ln2, ln3, ln4, ln5, ln6, ln7, ln8, ln9, ln10] at y d2; omega)⟩
        · rw [if_neg d2]; exact ⟨fun _ => Or.inr (by simp only [Int32.lt_iff_toInt_lt, Int32.le_iff_toInt_le, ← Int32.toInt_inj, il0, il1, il2, il3, il4, il5, il6, il15, il16, il31, il32, il40, il60, il63, il64, il120, il290, il300, il1000, il10000, il100000, ln1, ln2, ln3, ln4, ln5, ln6, ln7, ln8, ln9, ln10] at d2 ⊢; omega), fun _ => rfl⟩
    by_cases c1 : V6_isAmount S A G x1 x2 x3 = 0
    · rw [if_pos c1]; exact am_no h (by rw [hR, if_pos (key.mp c1)]) (by decide) (by decide)
    have c1' : ¬ V7_in T B G1 x1 0 1000 = 0 := fun z => c1 (key.mpr z)
    have hx1 : 0 ≤ x1.toInt := by
      have : ¬ x1 < 0 := fun z => c1' (in0.mpr (Or.inl z))
      have := nlt_i this
      rw [il0] at this
      exact this
    rw [if_neg c1]
    rw [if_neg c1'] at hR
    by_cases w : S 0 0 9 = -1
    · rw [if_pos w]; exact am_no h (by rw [hR, if_neg (fun z => (who_ge h).mp z w)]) (by decide) (by decide)
    rw [if_neg w]
    rw [if_pos ((who_ge h).mpr w)] at hR
    by_cases t : V4_takesAmount S A G = 0
    · rw [if_pos t]
      exact am_no h (by rw [hR, if_pos (hta.mp t)]) (by decide) (by decide)
    have t' : ¬ (T 20 0 27 < 0 ∨ T 20 0 27 = 2 ∨ ¬ T 20 0 33 = 0 ∨ (¬ T 20 0 31 = 0 ∧ T 20 0 32 = 0)) := fun z => t (hta.mpr z)
    have ho : ¬ S 5 0 0 = -1 := fun z => t' (Or.inl ((act_lt h).mpr z))
    have k2 : ¬ S 5 0 0 = 2 := fun z => t' (Or.inr (Or.inl (h27.trans z)))
    rw [if_neg t]
    rw [if_neg t', hL] at hR
    obtain ⟨e28, e29, -⟩ := h.2.2.2.2.2.1.2.2.2.2 ho
    have hx : 0 ≤ (T 20 0 28).toInt ∧ (T 20 0 28).toInt < 64 := h.2.2.2.2.2.1.2.2.1
    obtain ⟨l, p, bk, gv, -, -, -, -, -, b1, b2, b3, b4, -⟩ := bin_v (G1 := G1) h hx
    rw [e28] at b1 b3
    rw [b2, b4] at hR
    by_cases k0 : S 5 0 0 = 0
    · rw [if_pos k0]
      rw [if_pos (h27.trans k0)] at hR
      have hq := (h.2.2.2.2.2.1.2.2.2.2 ho).2.2.2.2.1 k0
      have ho1 := ord_at h hq
      rw [e29, ho1.2.2.2.2.2.1] at hR
      by_cases d1 : x1 ≤ S 14 (S 5 0 2).toNatClampNeg 3
      · rw [if_pos d1] at hR ⊢
        rw [b3]
        by_cases d2 : gv < x1
        · rw [if_pos d2]
          rw [if_neg (show ¬ x1 ≤ gv by simp only [Int32.lt_iff_toInt_lt, Int32.le_iff_toInt_le, ← Int32.toInt_inj, il0, il1, il2, il3, il4, il5, il6, il15, il16, il31, il32, il40, il60, il63, il64, il120, il290, il300, il1000, il10000, il100000, ln1, ln2, ln3, ln4, ln5, ln6, ln7, ln8, ln9, ln10] at d2 ⊢; omega)] at hR
          exact am_short h hR ho k2
        · rw [if_neg d2]
          rw [if_pos (show x1 ≤ gv by simp only [Int32.lt_iff_toInt_lt, Int32.le_iff_toInt_le, ← Int32.toInt_inj, il0, il1, il2, il3, il4, il5, il6, il15, il16, il31, il32, il40, il60, il63, il64, il120, il290, il300, il1000, il10000, il100000, ln1, ln2, ln3, ln4, ln5, ln6, ln7, ln8, ln9, ln10] at d2 ⊢; omega)] at hR
          by_cases c3 : S 6 0 1 < 300
          · rw [if_pos c3]
            rw [if_neg (show ¬ S 6 0 1 = 300 by simp only [Int32.lt_iff_toInt_lt, Int32.le_iff_toInt_le, ← Int32.toInt_inj, il0, il1, il2, il3, il4, il5, il6, il15, il16, il31, il32, il40, il60, il63, il64, il120, il290, il300, il1000, il10000, il100000, ln1, ln2, ln3, ln4, ln5, ln6, ln7, ln8, ln9, ln10] at c3 ⊢; omega)] at hR
            unfold O7_amount
            rw [hR, if_neg (show ¬ (0 : Int32) = -7 by decide), if_pos (show (0 : Int32) ≤ 0 by decide), if_neg hk, if_neg (show ¬ T 20 0 27 = 3 by rw [h27, k0]; decide)]
            exact am_take h k0 (by simp only [Int32.lt_iff_toInt_lt, Int32.le_iff_toInt_le, ← Int32.toInt_inj, il0, il1, il2, il3, il4, il5, il6, il15, il16, il31, il32, il40, il60, il63, il64, il120, il290, il300, il1000, il10000, il100000, ln1, ln2, ln3, ln4, ln5, ln6, ln7, ln8, ln9, ln10] at c3; omega) hx1
          · rw [if_neg c3]
            rw [if_pos (show S 6 0 1 = 300 by simp only [Int32.lt_iff_toInt_lt, Int32.le_iff_toInt_le, ← Int32.toInt_inj, il0, il1, il2, il3, il4, il5, il6, il15, il16, il31, il32, il40, il60, il63, il64, il120, il290, il300, il1000, il10000, il100000, ln1, ln2, ln3, ln4, ln5, ln6, ln7, ln8, ln9, ln10] at c3 ⊢; omega)] at hR
            exact am_no h hR (by decide) (by decide)
      · rw [if_neg d1] at hR ⊢
        exact am_no h hR (by decide) (by decide)
    · have k3 : S 5 0 0 = 3 := by
        have r := h.2.2.2.2.2.1.2.1
        simp only [Int32.lt_iff_toInt_lt, Int32.le_iff_toInt_le, ← Int32.toInt_inj, il0, il1, il2, il3, il4, il5, il6, il15, il16, il31, il32, il40, il60, il63, il64, il120, il290, il300, il1000, il10000, il100000, ln1, ln2, ln3, ln4, ln5, ln6, ln7, ln8, ln9, ln10] at ho k0 k1 k2 ⊢
        omega
      rw [if_neg k0, if_pos k3, b1]
      rw [if_neg (fun z => k0 (h27.symm.trans z)), if_pos (h27.trans k3)] at hR
      by_cases d1 : x1 ≤ bk
      · rw [if_pos d1] at hR ⊢
        by_cases c3 : S 6 0 1 < 300
        · rw [if_pos c3]
          rw [if_neg (show ¬ S 6 0 1 = 300 by simp only [Int32.lt_iff_toInt_lt, Int32.le_iff_toInt_le, ← Int32.toInt_inj, il0, il1, il2, il3, il4, il5, il6, il15, il16, il31, il32, il40, il60, il63, il64, il120, il290, il300, il1000, il10000, il100000, ln1, ln2, ln3, ln4, ln5, ln6, ln7, ln8, ln9, ln10] at c3 ⊢; omega)] at hR
          unfold O7_amount
          rw [hR, if_neg (show ¬ (0 : Int32) = -7 by decide), if_pos (show (0 : Int32) ≤ 0 by decide), if_neg hk, if_pos (h27.trans k3)]
          exact am_waste h k3 (by simp only [Int32.lt_iff_toInt_lt, Int32.le_iff_toInt_le, ← Int32.toInt_inj, il0, il1, il2, il3, il4, il5, il6, il15, il16, il31, il32, il40, il60, il63, il64, il120, il290, il300, il1000, il10000, il100000, ln1, ln2, ln3, ln4, ln5, ln6, ln7, ln8, ln9, ln10] at c3; omega) hx1
        · rw [if_neg c3]
          rw [if_pos (show S 6 0 1 = 300 by simp only [Int32.lt_iff_toInt_lt, Int32.le_iff_toInt_le, ← Int32.toInt_inj, il0, il1, il2, il3, il4, il5, il6, il15, il16, il31, il32, il40, il60, il63, il64, il120, il290, il300, il1000, il10000, il100000, ln1, ln2, ln3, ln4, ln5, ln6, ln7, ln8, ln9, ln10] at c3 ⊢; omega)] at hR
          exact am_no h hR (by decide) (by decide)
      · rw [if_neg d1] at hR ⊢
        exact am_short h hR ho k2
end AMOUNT2
