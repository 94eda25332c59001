/-! amount -/
section AMOUNT
variable {n : Nat} {S A : sS} {G : sG} {T B : sS} {G1 : sG}
theorem takesA (h : rR n S A G T B) : V4_takesAmount S A G = 0 ↔ (T 20 0 27 < 0 ∨ T 20 0 27 = 2 ∨ ¬ T 20 0 33 = 0 ∨ (¬ T 20 0 31 = 0 ∧ T 20 0 32 = 0)) := by
  have ha := act_lt h
  obtain ⟨s1, s2, s3, s4, s5⟩ := h.2.2.2.2.2.1
  unfold V4_takesAmount
  by_cases a : S 5 0 0 = -1
  · rw [if_pos (opn.mpr a)]; exact ⟨fun _ => Or.inl (ha.mpr a), fun _ => rfl⟩
  rw [if_neg (fun z => a (opn.mp z))]
  obtain ⟨q1, q2, q3, q4, q5, q6, q7, q8, q9⟩ := s5 a
  have na : ¬ T 20 0 27 < 0 := fun z => a (ha.mp z)
  by_cases b : S 5 0 0 = 2
  · rw [if_pos b]; exact ⟨fun _ => Or.inr (Or.inl (s1.trans b)), fun _ => rfl⟩
  have nb : ¬ T 20 0 27 = 2 := fun z => b (s1.symm.trans z)
  rw [if_neg b, q4]
  by_cases c : S 5 0 6 = 0
  · rw [if_pos c]
    have no : (¬ (¬ T 20 0 31 = 0 ∧ T 20 0 32 = 0)) → ¬ (T 20 0 27 < 0 ∨ T 20 0 27 = 2 ∨ ¬ S 5 0 6 = 0 ∨ (¬ T 20 0 31 = 0 ∧ T 20 0 32 = 0)) := fun w z => z.elim na (fun z => z.elim nb (fun z => z.elim (fun y => y c) w))
    by_cases d : T 20 0 32 = 0
    · by_cases e : S 5 0 4 = 0
      · rw [if_pos e]; exact ⟨fun z => absurd z n10, fun z => absurd z (no (fun y => y.1 ((q7 d).1.mp e)))⟩
      · rw [if_neg e]; exact ⟨fun _ => Or.inr (Or.inr (Or.inr ⟨fun z => e ((q7 d).1.mpr z), d⟩)), fun _ => rfl⟩
    · rw [if_pos (q8 d).1]; exact ⟨fun z => absurd z n10, fun z => absurd z (no (fun y => d y.2))⟩
  · rw [if_neg c]; exact ⟨fun _ => Or.inr (Or.inr (Or.inl c)), fun _ => rfl⟩
/-- what the reference refuses, where no lot comes in -/
theorem rfo (hk : ¬ T 20 0 27 = 1) (x1 x2 x3 : Int32) : V7_refusal T B G1 x1 x2 x3 = if V7_in T B G1 x1 0 1000 = 0 then (-1) else if 0 ≤ T 20 0 6 then (if T 20 0 27 < 0 ∨ T 20 0 27 = 2 ∨ ¬ T 20 0 33 = 0 ∨ (¬ T 20 0 31 = 0 ∧ T 20 0 32 = 0) then (-4) else if T 20 0 27 = 0 then (if x1 ≤ B 43 0 ((T 20 0 29).toNatClampNeg) then (if x1 ≤ V7_givableOf T B G1 (T 20 0 28) then (if T 20 0 34 = 300 then (-8) else 0) else (-7)) else (-6)) else (if T 20 0 27 = 3 then (if x1 ≤ V7_bookOf T B G1 (T 20 0 28) then (if T 20 0 34 = 300 then (-8) else 0) else (-7)) else (if T 20 0 34 = 300 then (-8) else 0))) else (-2) := by
  have rl : x1 ≤ x1 := Int32.le_iff_toInt_le.mpr (Int.le_refl _)
  have same : V7_refusal T B G1 x1 x2 x3 = if V7_in T B G1 x1 0 1000 = 0 then (-1) else if 0 ≤ T 20 0 6 then (if T 20 0 27 < 0 then (-4) else if T 20 0 27 = 2 then (-4) else if T 20 0 31 = 0 then (if T 20 0 33 = 0 then (if T 20 0 27 = 0 then (if x1 ≤ B 43 0 ((T 20 0 29).toNatClampNeg) then (if x1 ≤ V7_givableOf T B G1 (T 20 0 28) then (if T 20 0 34 = 300 then (-8) else 0) else (-7)) else (-6)) else (if T 20 0 27 = 3 then (if x1 ≤ V7_bookOf T B G1 (T 20 0 28) then (if T 20 0 34 = 300 then (-8) else 0) else (-7)) else (if T 20 0 34 = 300 then (-8) else 0))) else (-4)) else (if T 20 0 32 = 0 then (-4) else (if T 20 0 33 = 0 then (if T 20 0 27 = 0 then (if x1 ≤ B 43 0 ((T 20 0 29).toNatClampNeg) then (if x1 ≤ V7_givableOf T B G1 (T 20 0 28) then (if T 20 0 34 = 300 then (-8) else 0) else (-7)) else (-6)) else (if T 20 0 27 = 3 then (if x1 ≤ V7_bookOf T B G1 (T 20 0 28) then (if T 20 0 34 = 300 then (-8) else 0) else (-7)) else (if T 20 0 34 = 300 then (-8) else 0))) else (-4)))) else (-2) := by
    unfold V7_refusal
    simp only [if_neg hk, if_pos rl, ite_self]
  rw [same]
  by_cases c1 : V7_in T B G1 x1 0 1000 = 0
  · rw [if_pos c1, if_pos c1]
  rw [if_neg c1, if_neg c1]
  by_cases c2 : 0 ≤ T 20 0 6
  · rw [if_pos c2, if_pos c2]
    by_cases c3 : T 20 0 27 < 0
    · rw [if_pos c3, if_pos (Or.inl c3)]
    rw [if_neg c3]
    by_cases c4 : T 20 0 27 = 2
    · rw [if_pos c4, if_pos (Or.inr (Or.inl c4))]
    rw [if_neg c4]
    by_cases c5 : T 20 0 33 = 0
    · simp only [if_pos c5]
      by_cases c6 : T 20 0 31 = 0
      · rw [if_pos c6, if_neg (show ¬ (T 20 0 27 < 0 ∨ T 20 0 27 = 2 ∨ ¬ T 20 0 33 = 0 ∨ (¬ T 20 0 31 = 0 ∧ T 20 0 32 = 0)) from fun z => z.elim c3 (fun z => z.elim c4 (fun z => z.elim (fun y => y c5) (fun y => y.1 c6))))]
      · rw [if_neg c6]
        by_cases c7 : T 20 0 32 = 0
        · rw [if_pos c7, if_pos (Or.inr (Or.inr (Or.inr ⟨c6, c7⟩)))]
        · rw [if_neg c7, if_neg (show ¬ (T 20 0 27 < 0 ∨ T 20 0 27 = 2 ∨ ¬ T 20 0 33 = 0 ∨ (¬ T 20 0 31 = 0 ∧ T 20 0 32 = 0)) from fun z => z.elim c3 (fun z => z.elim c4 (fun z => z.elim (fun y => y c5) (fun y => c7 y.2))))]
    · simp only [if_neg c5, ite_self]
      rw [if_pos (show T 20 0 27 < 0 ∨ T 20 0 27 = 2 ∨ ¬ T 20 0 33 = 0 ∨ (¬ T 20 0 31 = 0 ∧ T 20 0 32 = 0) from Or.inr (Or.inr (Or.inl c5)))]
  · rw [if_neg c2, if_neg c2]
/-- what it refuses, where one does -/
theorem rff (h : rR n S A G T B) (hk : T 20 0 27 = 1) (x1 x2 x3 : Int32) : V7_refusal T B G1 x1 x2 x3 = if V6_isAmount S A G x1 x2 x3 = 0 then (-1) else if 0 ≤ T 20 0 6 then (if ¬ T 20 0 33 = 0 ∨ (¬ T 20 0 31 = 0 ∧ T 20 0 32 = 0) then (-4) else (if T 20 0 34 = 300 then (-8) else 0)) else (-2) := by
  have rl : x1 ≤ x1 := Int32.le_iff_toInt_le.mpr (Int.le_refl _)
  have hk2 : S 5 0 0 = 1 := h.2.2.2.2.2.1.1.symm.trans hk
  have ho : ¬ S 5 0 0 = -1 := by rw [hk2]; decide
  have e28 := (h.2.2.2.2.2.1.2.2.2.2 ho).1
  have hx : 0 ≤ (T 20 0 28).toInt ∧ (T 20 0 28).toInt < 64 := h.2.2.2.2.2.1.2.2.1
  obtain ⟨q1, -, -, -, q5, -⟩ := h.2.2.2.1 _ (cl_lt hx.1 hx.2)
  have hi := isItem_eq (G1 := G1) h x2
  have hm : V0_mayHold S A G (S 5 0 1).toNatClampNeg x2 = 0 ↔ ¬ (B 35 0 (T 20 0 28).toNatClampNeg < 0 ∨ B 35 0 (T 20 0 28).toNatClampNeg = x2) := by
    rw [q1, e28]
    rw [e28] at q5
    unfold V0_mayHold
    have c0 : S 15 (S 5 0 1).toNatClampNeg 2 = -1 ↔ S 15 (S 5 0 1).toNatClampNeg 2 < 0 := by
      constructor
      · intro z; rw [z]; decide
      · intro z
        rcases q5 with y | y
        · exact y.1
        · have := lt_i z; rw [il0] at this; omega
    by_cases c : S 15 (S 5 0 1).toNatClampNeg 2 = -1
    · rw [if_pos c]; exact ⟨fun z => absurd z n10, fun z => absurd (Or.inl (c0.mp c)) z⟩
    · rw [if_neg c]
      by_cases d : S 15 (S 5 0 1).toNatClampNeg 2 = x2
      · rw [if_pos d]; exact ⟨fun z => absurd z n10, fun z => absurd (Or.inr d) z⟩
      · rw [if_neg d]; exact ⟨fun _ z => z.elim (fun y => c (c0.mpr y)) d, fun _ => rfl⟩
  have hn0 : ¬ T 20 0 27 < 0 := by rw [hk]; decide
  have hn2 : ¬ T 20 0 27 = 2 := by rw [hk]; decide
  unfold V7_refusal V6_isAmount
  rw [← hi, h.1.1]
  have hin := in0 (S := T) (A := B) (G := G1) (x := x1) (a := 0) (c := 1000)
  simp only [if_pos hk, if_pos hk2, if_pos rl, ite_self]
  by_cases c1 : V6_isItem S A G x2 = 0
  · rw [if_pos c1]
    simp only [if_pos c1, ite_self]
    rw [if_pos trivial]
  rw [if_neg c1]
  by_cases c2 : x3 ≤ S 0 0 8
  · rw [if_pos c2]
    simp only [if_pos c2, ite_self]
    rw [if_pos trivial]
  rw [if_neg c2]
  by_cases c3 : x1 ≤ 0
  · rw [if_pos c3]
    simp only [if_pos c3, ite_self]
    rw [if_pos trivial]
  rw [if_neg c3]
  simp only [if_neg c1, if_neg c2, if_neg c3]
  by_cases c4 : V0_mayHold S A G (S 5 0 1).toNatClampNeg x2 = 0
  · have c4' := hm.mp c4
    simp only [if_pos c4, ite_self, if_neg (fun z => c4' (Or.inl z)), if_neg (fun z => c4' (Or.inr z))]
    rw [if_pos trivial]
  simp only [if_neg c4]
  have key : V7_in T B G1 x1 0 1000 = 0 ↔ (if x1 < 0 then (0 : Int32) else if x1 ≤ 1000 then 1 else 0) = 0 := by
    rw [hin]
    by_cases d1 : x1 < 0
    · rw [if_pos d1]; exact ⟨fun _ => rfl, fun _ => Or.inl d1⟩
    · rw [if_neg d1]
      by_cases d2 : x1 ≤ 1000
      · rw [if_pos d2]; exact ⟨fun z => z.elim (fun y => absurd y d1) (fun y => by simp only [Int32.lt_iff_toInt_lt, Int32.le_iff_toInt_le, ← Int32.toInt_inj, il0, il1, il2, il3, il4, il5, il6, il15, il16, il31, il32, il40, il60, il63, il64, il120, il290, il300, il1000, il10000, il100000, ln1, ln2, ln3, ln4, ln5, ln6, ln7, ln8, ln9, ln10] at y d2; omega), fun z => absurd z n10⟩
      · rw [if_neg d2]; exact ⟨fun _ => rfl, fun _ => Or.inr (by simp only [Int32.lt_iff_toInt_lt, Int32.le_iff_toInt_le, ← Int32.toInt_inj, il0, il1, il2, il3, il4, il5, il6, il15, il16, il31, il32, il40, il60, il63, il64, il120, il290, il300, il1000, il10000, il100000, ln1, ln2, ln3, ln4, ln5, ln6, ln7, ln8, ln9, ln10] at d2 ⊢; omega)⟩
  have fin : (if V7_in T B G1 x1 0 1000 = 0 then (-1 : Int32) else if 0 ≤ T 20 0 6 then if T 20 0 31 = 0 then if T 20 0 33 = 0 then if T 20 0 34 = 300 then -8 else 0 else -4 else if T 20 0 32 = 0 then -4 else if T 20 0 33 = 0 then if T 20 0 34 = 300 then -8 else 0 else -4 else -2) = if (if x1 < 0 then (0 : Int32) else if x1 ≤ 1000 then 1 else 0) = 0 then (-1) else if 0 ≤ T 20 0 6 then (if ¬ T 20 0 33 = 0 ∨ (¬ T 20 0 31 = 0 ∧ T 20 0 32 = 0) then (-4) else (if T 20 0 34 = 300 then (-8) else 0)) else (-2) := by
    by_cases d : V7_in T B G1 x1 0 1000 = 0
    · rw [if_pos d, if_pos (key.mp d)]
    rw [if_neg d, if_neg (fun z => d (key.mpr z))]
    by_cases c2 : 0 ≤ T 20 0 6
    · rw [if_pos c2, if_pos c2]
      by_cases c5 : T 20 0 33 = 0
      · simp only [if_pos c5]
        by_cases c6 : T 20 0 31 = 0
        · rw [if_pos c6, if_neg (show ¬ (¬ T 20 0 33 = 0 ∨ (¬ T 20 0 31 = 0 ∧ T 20 0 32 = 0)) from fun z => z.elim (fun y => y c5) (fun y => y.1 c6))]
        · rw [if_neg c6]
          by_cases c7 : T 20 0 32 = 0
          · rw [if_pos c7, if_pos (show ¬ T 20 0 33 = 0 ∨ (¬ T 20 0 31 = 0 ∧ T 20 0 32 = 0) from Or.inr ⟨c6, c7⟩)]
          · rw [if_neg c7, if_neg (show ¬ (¬ T 20 0 33 = 0 ∨ (¬ T 20 0 31 = 0 ∧ T 20 0 32 = 0)) from fun z => z.elim (fun y => y c5) (fun y => c7 y.2))]
      · simp only [if_neg c5, ite_self]
        rw [if_pos (show ¬ T 20 0 33 = 0 ∨ (¬ T 20 0 31 = 0 ∧ T 20 0 32 = 0) from Or.inl c5)]
    · rw [if_neg c2, if_neg c2]
  by_cases c5 : B 35 0 (T 20 0 28).toNatClampNeg < 0
  · rw [if_pos c5]; exact fin
  · have c6 : B 35 0 (T 20 0 28).toNatClampNeg = x2 := Classical.byContradiction fun z => c4 (hm.mpr (fun y => y.elim c5 z))
    rw [if_neg c5, if_pos c6]; exact fin
theorem rR.tld (h : rR n S A G T B) : rR n (up3 S 5 0 6 1) A G (up3 T 20 0 33 1) B := by
  obtain ⟨g1, g2, g3, g4, g5, ⟨s1, s2, s3, s4, s5⟩, g7, g8⟩ := h
  refine ⟨g1, g2, g3, g4, g5, ⟨s1, s2, s3, s4, fun a => ?_⟩, fun a => ⟨fun _ z => absurd z n10, (g7 a).2⟩, g8⟩
  obtain ⟨q1, q2, q3, q4, q5⟩ := s5 a
  exact ⟨q1, q2, q3, rfl, q5⟩
theorem am_fin {T1 B1 A1 S1 : sS} (h : rR n (up3 S1 5 0 6 1) A1 G T1 B1) (hs : (S1 6 0 1).toInt < 300) {kd b u o : Int32} (hk : b.toInt < 0 ∨ kd = 1 ∨ kd = 2 ∨ kd = 3 ∨ kd = 4) : rR n (up3 (up3 (up3 S1 6 0 1 (S1 6 0 1 + 1)) 5 0 6 1) 0 0 10 (S1 0 0 8)) (wrA A1 (6 * (S1 6 0 1).toNatClampNeg) kd (S1 0 0 8) (S1 0 0 9) b u o) G (O7_note T1 B1 G1 kd b u o).1 (O7_note T1 B1 G1 kd b u o).2 := by
  have r := note_r (G1 := G1) h hs (kd := kd) (b := b) (u := u) (o := o) hk
  rw [up3_c (f := 6) (f1 := 5) (fun z => absurd z.1 (by decide))]
  exact r
theorem sz_lt {S1 : sS} (hs : (S1 6 0 1).toInt < 300) : S1 6 0 1 < 300 := Int32.lt_iff_toInt_lt.mpr (by rw [il300]; exact hs)
/-- both answer with the book -/
theorem am_book {S1 A1 T1 B1 : sS} (h : rR n S1 A1 G T1 B1) {x y : Int32} (hx : 0 ≤ x.toInt ∧ x.toInt < 64) (e : x = y) : V0_book S1 A1 G y.toNatClampNeg = V7_bookOf T1 B1 G1 x := by
  obtain ⟨l, p, bk, gv, -, -, -, -, -, b1, b2, -⟩ := bin_v (G1 := G1) h hx
  rw [← e, b1, b2]
/-- an order that is taken from -/
theorem rR.ord (h : rR n S A G T B) {q : Nat} (hq : (q : Int) < (S 0 0 13).toInt) {x1 : Int32} : rR n (up3 (up3 (up3 S 14 q 3 (S 14 q 3 - x1)) 14 q 5 1) 14 q 6 (S 0 0 8)) A G T (up3 (up3 B 43 0 q (B 43 0 q - x1)) 47 0 q (T 20 0 0)) := by
  have t1 := h.1.1
  have t2 := h.1.2.1.1
  obtain ⟨g1, g2, g3, g4, ⟨o1, o2, o3, o4, o5, o6⟩, g6, g7⟩ := h
  refine ⟨g1, g2, g3, g4, ⟨o1, o2, o3, o4, o5, fun w hw => ?_⟩, g6, g7⟩
  obtain ⟨p1, p2, p3, p4, p5, p6, p7, p8⟩ := o6 w hw
  by_cases e : w = q
  · subst e
    have s3 : up3 (up3 (up3 S 14 w 3 (S 14 w 3 - x1)) 14 w 5 1) 14 w 6 (S 0 0 8) 14 w 3 = S 14 w 3 - x1 := up3_s (S := S) (f := 14) (n := w) (k := 3)
    have s5 : up3 (up3 (up3 S 14 w 3 (S 14 w 3 - x1)) 14 w 5 1) 14 w 6 (S 0 0 8) 14 w 5 = 1 := up3_s (S := up3 S 14 w 3 (S 14 w 3 - x1)) (f := 14) (n := w) (k := 5)
    have s6 : up3 (up3 (up3 S 14 w 3 (S 14 w 3 - x1)) 14 w 5 1) 14 w 6 (S 0 0 8) 14 w 6 = S 0 0 8 := up3_s
    have b43 : up3 (up3 B 43 0 w (B 43 0 w - x1)) 47 0 w (T 20 0 0) 43 0 w = B 43 0 w - x1 := up3_s (S := B) (f := 43) (n := 0) (k := w)
    have b47 : up3 (up3 B 43 0 w (B 43 0 w - x1)) 47 0 w (T 20 0 0) 47 0 w = T 20 0 0 := up3_s
    unfold rO1
    rw [s3, s5, s6, b43, b47, p6]
    exact ⟨p1, p2, p3, p4, p5, rfl, p7, Or.inr ⟨n10, t1, t2⟩⟩
  · have eS : ∀ k, up3 (up3 (up3 S 14 q 3 (S 14 q 3 - x1)) 14 q 5 1) 14 q 6 (S 0 0 8) 14 w k = S 14 w k := fun k => by
      rw [up3_n (fun z => e z.2.2), up3_n (fun z => e z.2.2), up3_n (fun z => e z.2.2)]
    have b43 : up3 (up3 B 43 0 q (B 43 0 q - x1)) 47 0 q (T 20 0 0) 43 0 w = B 43 0 w := up3_n (S := B) (f := 43) (n := 0) (k := q) (v := B 43 0 q - x1) (fun z => e z.2.1)
    have b47 : up3 (up3 B 43 0 q (B 43 0 q - x1)) 47 0 q (T 20 0 0) 47 0 w = B 47 0 w := up3_n (S := up3 B 43 0 q (B 43 0 q - x1)) (fun z => e z.2.1)
    unfold rO1
    simp only [eS]
    rw [b43, b47]
    exact ⟨p1, p2, p3, p4, p5, p6, p7, p8⟩
/-- the bin of a step that takes out -/
theorem am_bin (h : rR n S A G T B) (hb : (S 5 0 1).toNatClampNeg < 64) (ho : ¬ S 5 0 0 = -1) (hk : ¬ S 5 0 0 = 1) {A1 B1 : sS} {v : Int32} (hA : fA (S 5 0 1).toNatClampNeg A A1) (hB : fB (S 5 0 1).toNatClampNeg B B1) (e36 : B1 36 0 (S 5 0 1).toNatClampNeg = v) (hl : lotR v.toInt (A1 16 (S 5 0 1).toNatClampNeg) (A1 17 (S 5 0 1).toNatClampNeg) (fun k => B1 38 0 (6 * (S 5 0 1).toNatClampNeg + k)) (fun k => B1 37 0 (6 * (S 5 0 1).toNatClampNeg + k))) : rR n (up3 (up3 S 15 (S 5 0 1).toNatClampNeg 3 v) 5 0 6 1) A1 G (up3 T 20 0 33 1) B1 := by
  have hi := (h.2.2.2.2.2.2.1 ho).2 hk
  obtain ⟨q1, q2, q3, q4, q5, q6⟩ := h.2.2.2.1 _ hb
  rw [up3_c (fun z => absurd z.1 (by decide))]
  refine h.tld.bin (S1 := up3 (up3 S 5 0 6 1) 15 (S 5 0 1).toNatClampNeg 3 v) (fS_u fS_r) hA (fB_BB hB) ?_ (fun _ => ⟨fun z => absurd z hk, fun _ => hi⟩)
  have s3 : up3 (up3 S 5 0 6 1) 15 (S 5 0 1).toNatClampNeg 3 v 15 (S 5 0 1).toNatClampNeg 3 = v := up3_s
  have b35 : B1 35 0 (S 5 0 1).toNatClampNeg = B 35 0 (S 5 0 1).toNatClampNeg := hB _ _ _ (fun z => by omega)
  have b39 : B1 39 0 (S 5 0 1).toNatClampNeg = B 39 0 (S 5 0 1).toNatClampNeg := hB _ _ _ (fun z => by omega)
  have b40 : B1 40 0 (S 5 0 1).toNatClampNeg = B 40 0 (S 5 0 1).toNatClampNeg := hB _ _ _ (fun z => by omega)
  unfold rB1
  rw [s3]
  exact ⟨b35.trans q1, e36, b39.trans q3, b40.trans q4, Or.inr (q5.resolve_left (fun z => hi z.1)), hl⟩
theorem am_no {x1 x2 x3 v : Int32} (h : rR n S A G T B) (hv : V7_refusal T B G1 x1 x2 x3 = v) (h7 : ¬ v = -7) (h0 : ¬ 0 ≤ v) : cg n G (v, S, A) (O7_amount T B G1 x1 x2 x3) := by
  unfold O7_amount
  rw [hv, if_neg h7, if_neg h0]
  exact cg_no h v
theorem am_short {x1 x2 x3 : Int32} (h : rR n S A G T B) (hv : V7_refusal T B G1 x1 x2 x3 = -7) (ho : ¬ S 5 0 0 = -1) (h2 : ¬ S 5 0 0 = 2) : cg n G (-7, up3 S 5 0 4 1, A) (O7_amount T B G1 x1 x2 x3) := by
  unfold O7_amount
  rw [hv, if_pos rfl]
  obtain ⟨g1, g2, g3, g4, g5, ⟨s1, s2, s3, s4, s5⟩, g7, g8⟩ := h.mono
  refine ⟨rfl, g1, g2, g3, g4, g5, ⟨s1, s2, s3, fun z => absurd z ho, fun _ => ?_⟩, g7, g8⟩
  obtain ⟨q1, q2, q3, q4, q5, q6, -⟩ := s5 ho
  exact ⟨q1, q2, q3, q4, q5, q6, fun _ => ⟨Iff.rfl, fun z => absurd z n10⟩, fun z => absurd rfl z, fun z => absurd z h2⟩
end AMOUNT
