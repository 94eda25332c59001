/-! the calls that make an object; the ledger's entries -/
section MAKE
variable {n : Nat} {S A : sS} {G : sG} {T B : sS} {G1 : sG}
def cgA (n : Nat) (G1 : sG) (o6 : Int32 × sS × sS × Option Nat) (o7 : Int32 × sS × sS) : Prop := o6.1 = o7.1 ∧ rR (n + 1) o6.2.1 o6.2.2.1 G1 o7.2.1 o7.2.2
theorem cgA_no (h : rR n S A G T B) (v : Int32) : cgA n (aG G 1 none) (v, S, A, none) (v, T, B) := ⟨rfl, h.mono⟩
theorem co_user (h : rR n S A G T B) (x1 x2 x3 : Int32) : cgA n (aG G 1 (O6_user S A G x1 x2 x3).2.2.2) (O6_user S A G x1 x2 x3) (O7_user T B G1 x1 x2 x3) := by
  unfold O6_user O7_user
  by_cases c1 : x1 < 0
  · rw [if_pos c1, if_pos (in0.mpr (Or.inl c1))]; exact cgA_no h _
  by_cases c2 : 16 ≤ x1
  · rw [if_neg c1, if_pos c2, if_pos (in0.mpr (Or.inr (by simp only [Int32.lt_iff_toInt_lt, Int32.le_iff_toInt_le, ← Int32.toInt_inj, il0, il1, il2, il3, il4, il5, il6, il15, il16, il31, il32, il40, il60, il63, il64, il120, il290, il300, il1000, il10000, il100000, ln1, ln2, ln3, ln4, ln5, ln6, ln7, ln8, ln9, ln10] at c2 ⊢; omega)))]; exact cgA_no h _
  have hx : 0 ≤ x1.toInt ∧ x1.toInt < 16 := by simp only [Int32.lt_iff_toInt_lt, Int32.le_iff_toInt_le, ← Int32.toInt_inj, il0, il1, il2, il3, il4, il5, il6, il15, il16, il31, il32, il40, il60, il63, il64, il120, il290, il300, il1000, il10000, il100000, ln1, ln2, ln3, ln4, ln5, ln6, ln7, ln8, ln9, ln10] at c1 c2; omega
  rw [if_neg c1, if_neg c2, if_neg (fun z => (in0.mp z).elim c1 (fun z => by simp only [Int32.lt_iff_toInt_lt, Int32.le_iff_toInt_le, ← Int32.toInt_inj, il0, il1, il2, il3, il4, il5, il6, il15, il16, il31, il32, il40, il60, il63, il64, il120, il290, il300, il1000, il10000, il100000, ln1, ln2, ln3, ln4, ln5, ln6, ln7, ln8, ln9, ln10] at z c2; omega))]
  by_cases c3 : x2 < 0
  · rw [if_pos c3, if_pos (in0.mpr (Or.inl c3))]; exact cgA_no h _
  by_cases c4 : 2 < x2
  · rw [if_neg c3, if_pos c4, if_pos (in0.mpr (Or.inr c4))]; exact cgA_no h _
  rw [if_neg c3, if_neg c4, if_neg (fun z => (in0.mp z).elim c3 c4)]
  have hu := cl_lt hx.1 hx.2
  have hq := h.2.1.2 _ hu
  by_cases d : G 1 x1.toNatClampNeg = none
  · rw [if_pos d, if_pos (hq.1 d).1]
    refine ⟨rfl, ?_⟩
    dsimp only
    obtain ⟨g1, ⟨u1, u2⟩, hr⟩ := h.mono
    refine ⟨g1, ⟨u1.imp id (fun q => ⟨q.1, q.2.1, fun z => ?_⟩), fun w hw => ?_⟩, hr⟩
    · have z : aG G 1 (some x1.toNatClampNeg) 1 (S 0 0 9).toNatClampNeg = none := z
      by_cases e : (S 0 0 9).toNatClampNeg = x1.toNatClampNeg
      · rw [show aG G 1 (some x1.toNatClampNeg) 1 (S 0 0 9).toNatClampNeg = some x1.toNatClampNeg from if_pos ⟨rfl, e⟩] at z
        exact absurd z (by simp)
      · rw [show aG G 1 (some x1.toNatClampNeg) 1 (S 0 0 9).toNatClampNeg = G 1 (S 0 0 9).toNatClampNeg from if_neg (fun y => e y.2)] at z
        exact q.2.2 z
    · by_cases e : w = x1.toNatClampNeg
      · subst e
        refine ⟨fun z => ?_, fun _ => ⟨?_, ?_, ?_, ?_, ?_, ?_, ?_⟩⟩
        · rw [show aG G 1 (some x1.toNatClampNeg) 1 x1.toNatClampNeg = some x1.toNatClampNeg from if_pos ⟨rfl, rfl⟩] at z
          exact absurd z (by simp)
        · intro z
          rw [show up3 (up3 (up3 B 22 0 x1.toNatClampNeg 1) 23 0 x1.toNatClampNeg x2) 24 0 x1.toNatClampNeg x3 22 0 x1.toNatClampNeg = 1 from up3_s] at z
          exact absurd z (by decide)
        · exact (show _ = x2 from up3_s).trans (show _ = x2 from upO_s).symm
        · exact (show _ = x3 from up3_s).trans (show _ = x3 from upO_s).symm
        · exact (hq.1 d).2.1.trans (show _ = (0 : Int32) from upO_s).symm
        · exact (hq.1 d).2.2.trans (show _ = (0 : Int32) from upO_s).symm
        · rw [show upO S 12 x1.toNatClampNeg [x2, x3, 0, 0] 12 x1.toNatClampNeg 0 = x2 from upO_s]
          simp only [Int32.lt_iff_toInt_lt, Int32.le_iff_toInt_le, ← Int32.toInt_inj, il0, il1, il2, il3, il4, il5, il6, il15, il16, il31, il32, il40, il60, il63, il64, il120, il290, il300, il1000, il10000, il100000, ln1, ln2, ln3, ln4, ln5, ln6, ln7, ln8, ln9, ln10] at c3 c4; omega
        · rw [show upO S 12 x1.toNatClampNeg [x2, x3, 0, 0] 12 x1.toNatClampNeg 2 = 0 from upO_s]
          decide
      · have q := u2 w hw
        have eS : ∀ k, upO S 12 x1.toNatClampNeg [x2, x3, 0, 0] 12 w k = S 12 w k := fun k => upO_n (fun z => e z.2)
        have eG : aG G 1 (some x1.toNatClampNeg) 1 w = G 1 w := if_neg (fun y => e y.2)
        have e22 : up3 (up3 (up3 B 22 0 x1.toNatClampNeg 1) 23 0 x1.toNatClampNeg x2) 24 0 x1.toNatClampNeg x3 22 0 w = B 22 0 w := up3_n (S := B) (f := 22) (n := 0) (k := x1.toNatClampNeg) (v := 1) (fun z => e z.2.1)
        have e23 : up3 (up3 (up3 B 22 0 x1.toNatClampNeg 1) 23 0 x1.toNatClampNeg x2) 24 0 x1.toNatClampNeg x3 23 0 w = B 23 0 w := up3_n (S := up3 B 22 0 x1.toNatClampNeg 1) (f := 23) (n := 0) (k := x1.toNatClampNeg) (v := x2) (fun z => e z.2.1)
        have e24 : up3 (up3 (up3 B 22 0 x1.toNatClampNeg 1) 23 0 x1.toNatClampNeg x2) 24 0 x1.toNatClampNeg x3 24 0 w = B 24 0 w := up3_n (fun z => e z.2.1)
        have r := rU1_cg (G := G) (S := S) (B := B) (S1 := upO S 12 x1.toNatClampNeg [x2, x3, 0, 0]) (B1 := up3 (up3 (up3 B 22 0 x1.toNatClampNeg 1) 23 0 x1.toNatClampNeg x2) 24 0 x1.toNatClampNeg x3) eS rfl rfl e22 e23 e24 q
        unfold rU1 at r ⊢
        rw [eG]
        exact r
  · rw [if_neg d, if_neg (hq.2 d).1]; exact cgA_no h _
theorem aG2_mono {k w : Nat} (h : ¬ G 2 w = none) : ¬ aG G 2 (some k) 2 w = none := fun z => by
  by_cases e : w = k
  · rw [show aG G 2 (some k) 2 w = some k from if_pos ⟨rfl, e⟩] at z
    exact absurd z (by simp)
  · rw [show aG G 2 (some k) 2 w = G 2 w from if_neg (fun y => e y.2)] at z
    exact h z
theorem co_item (h : rR n S A G T B) (x1 x2 x3 : Int32) : cgA n (aG G 2 (O6_item S A G x1 x2 x3).2.2.2) (O6_item S A G x1 x2 x3) (O7_item T B G1 x1 x2 x3) := by
  unfold O6_item O7_item
  by_cases c1 : x1 < 0
  · rw [if_pos c1, if_pos (in0.mpr (Or.inl c1))]; exact cgA_no h _
  by_cases c2 : 32 ≤ x1
  · rw [if_neg c1, if_pos c2, if_pos (in0.mpr (Or.inr (by simp only [Int32.lt_iff_toInt_lt, Int32.le_iff_toInt_le, ← Int32.toInt_inj, il0, il1, il2, il3, il4, il5, il6, il15, il16, il31, il32, il40, il60, il63, il64, il120, il290, il300, il1000, il10000, il100000, ln1, ln2, ln3, ln4, ln5, ln6, ln7, ln8, ln9, ln10] at c2 ⊢; omega)))]; exact cgA_no h _
  have hx : 0 ≤ x1.toInt ∧ x1.toInt < 32 := by simp only [Int32.lt_iff_toInt_lt, Int32.le_iff_toInt_le, ← Int32.toInt_inj, il0, il1, il2, il3, il4, il5, il6, il15, il16, il31, il32, il40, il60, il63, il64, il120, il290, il300, il1000, il10000, il100000, ln1, ln2, ln3, ln4, ln5, ln6, ln7, ln8, ln9, ln10] at c1 c2; omega
  rw [if_neg c1, if_neg c2, if_neg (fun z => (in0.mp z).elim c1 (fun z => by simp only [Int32.lt_iff_toInt_lt, Int32.le_iff_toInt_le, ← Int32.toInt_inj, il0, il1, il2, il3, il4, il5, il6, il15, il16, il31, il32, il40, il60, il63, il64, il120, il290, il300, il1000, il10000, il100000, ln1, ln2, ln3, ln4, ln5, ln6, ln7, ln8, ln9, ln10] at z c2; omega))]
  by_cases c3 : x3 < 0
  · rw [if_pos c3, if_pos (in0.mpr (Or.inl c3))]; exact cgA_no h _
  by_cases c4 : 10000 < x3
  · rw [if_neg c3, if_pos c4, if_pos (in0.mpr (Or.inr c4))]; exact cgA_no h _
  rw [if_neg c3, if_neg c4, if_neg (fun z => (in0.mp z).elim c3 c4)]
  have hu := cl_lt hx.1 hx.2
  have hq := h.2.2.1 _ hu
  by_cases d : G 2 x1.toNatClampNeg = none
  · rw [if_pos d, if_pos (hq.1 d).1]
    refine ⟨rfl, ?_⟩
    dsimp only
    obtain ⟨g1, g2, g3, g4, ⟨o1, o2, o3, o4, o5, o6⟩, hr⟩ := h.mono
    refine ⟨g1, g2, fun w hw => ?_, fun b hb => ?_, ⟨o1, o2, o3, o4, o5, fun q hq => ?_⟩, hr⟩
    · by_cases e : w = x1.toNatClampNeg
      · subst e
        refine ⟨fun z => ?_, fun _ => ⟨?_, ?_, ?_, ?_, ?_⟩⟩
        · rw [show aG G 2 (some x1.toNatClampNeg) 2 x1.toNatClampNeg = some x1.toNatClampNeg from if_pos ⟨rfl, rfl⟩] at z
          exact absurd z (by simp)
        · intro z
          rw [show up3 (up3 (up3 B 31 0 x1.toNatClampNeg 1) 32 0 x1.toNatClampNeg x2) 33 0 x1.toNatClampNeg x3 31 0 x1.toNatClampNeg = 1 from up3_s] at z
          exact absurd z (by decide)
        · exact (show _ = x2 from up3_s).trans (show _ = x2 from upO_s).symm
        · exact (show _ = x3 from up3_s).trans (show _ = x3 from upO_s).symm
        · exact (hq.1 d).2.trans (show _ = (0 : Int32) from upO_s).symm
        · rw [show upO S 13 x1.toNatClampNeg [x2, x3, 0] 13 x1.toNatClampNeg 1 = x3 from upO_s]
          simp only [Int32.lt_iff_toInt_lt, Int32.le_iff_toInt_le, ← Int32.toInt_inj, il0, il1, il2, il3, il4, il5, il6, il15, il16, il31, il32, il40, il60, il63, il64, il120, il290, il300, il1000, il10000, il100000, ln1, ln2, ln3, ln4, ln5, ln6, ln7, ln8, ln9, ln10] at c3 c4; omega
      · have q := g3 w hw
        have eS : ∀ k, upO S 13 x1.toNatClampNeg [x2, x3, 0] 13 w k = S 13 w k := fun k => upO_n (fun z => e z.2)
        have eG : aG G 2 (some x1.toNatClampNeg) 2 w = G 2 w := if_neg (fun y => e y.2)
        have e31 : up3 (up3 (up3 B 31 0 x1.toNatClampNeg 1) 32 0 x1.toNatClampNeg x2) 33 0 x1.toNatClampNeg x3 31 0 w = B 31 0 w := up3_n (S := B) (f := 31) (n := 0) (k := x1.toNatClampNeg) (v := 1) (fun z => e z.2.1)
        have e32 : up3 (up3 (up3 B 31 0 x1.toNatClampNeg 1) 32 0 x1.toNatClampNeg x2) 33 0 x1.toNatClampNeg x3 32 0 w = B 32 0 w := up3_n (S := up3 B 31 0 x1.toNatClampNeg 1) (f := 32) (n := 0) (k := x1.toNatClampNeg) (v := x2) (fun z => e z.2.1)
        have e33 : up3 (up3 (up3 B 31 0 x1.toNatClampNeg 1) 32 0 x1.toNatClampNeg x2) 33 0 x1.toNatClampNeg x3 33 0 w = B 33 0 w := up3_n (fun z => e z.2.1)
        have e34 : up3 (up3 (up3 B 31 0 x1.toNatClampNeg 1) 32 0 x1.toNatClampNeg x2) 33 0 x1.toNatClampNeg x3 34 0 w = B 34 0 w := rfl
        unfold rI1 at q ⊢
        rw [eG]
        rw [e31, e32, e33, e34, eS, eS, eS]
        exact q
    · obtain ⟨q1, q2, q3, q4, q5, q6⟩ := g4 b hb
      exact ⟨q1, q2, q3, q4, q5.imp id (fun q => ⟨q.1, q.2.1, aG2_mono q.2.2⟩), q6⟩
    · obtain ⟨p1, p2, p3, p4⟩ := o6 q hq
      exact ⟨p1, p2, aG2_mono p3, p4⟩
  · rw [if_neg d, if_neg (hq.2 d).1]; exact cgA_no h _
theorem co_order (h : rR n S A G T B) (x1 x2 x3 x4 : Int32) : cgA n (aG G 4 (O6_order S A G x1 x2 x3 x4).2.2.2) (O6_order S A G x1 x2 x3 x4) (O7_order T B G1 x1 x2 x3 x4) := by
  have hi := isItem_eq (G1 := G1) h x1
  unfold O6_order O7_order
  rw [← hi, h.1.1]
  by_cases c1 : V6_isItem S A G x1 = 0
  · rw [if_pos c1, if_pos c1]; exact cgA_no h _
  rw [if_neg c1, if_neg c1]
  have hx := isItem_r c1
  by_cases c2 : x2 < 1
  · rw [if_pos c2, if_pos (in0.mpr (Or.inl c2))]; exact cgA_no h _
  by_cases c3 : 1000 < x2
  · rw [if_neg c2, if_pos c3, if_pos (in0.mpr (Or.inr c3))]; exact cgA_no h _
  rw [if_neg c2, if_neg c3, if_neg (fun z => (in0.mp z).elim c2 c3)]
  by_cases c4 : x3 < 0
  · rw [if_pos c4, if_pos (in0.mpr (Or.inl c4))]; exact cgA_no h _
  by_cases c5 : 100000 < x3
  · rw [if_neg c4, if_pos c5, if_pos (in0.mpr (Or.inr c5))]; exact cgA_no h _
  rw [if_neg c4, if_neg c5, if_neg (fun z => (in0.mp z).elim c4 c5)]
  by_cases c6 : S 0 0 8 < x4
  · rw [if_pos c6, if_neg (show ¬ x4 ≤ S 0 0 8 by simp only [Int32.lt_iff_toInt_lt, Int32.le_iff_toInt_le, ← Int32.toInt_inj, il0, il1, il2, il3, il4, il5, il6, il15, il16, il31, il32, il40, il60, il63, il64, il120, il290, il300, il1000, il10000, il100000, ln1, ln2, ln3, ln4, ln5, ln6, ln7, ln8, ln9, ln10] at c6 ⊢; omega)]
    by_cases w : S 0 0 9 = -1
    · rw [if_pos w, if_neg (fun z => (who_ge h).mp z w)]; exact cgA_no h _
    rw [if_neg w, if_pos ((who_ge h).mpr w)]
    by_cases r : V6_isPharmacistIn S A G = 0
    · rw [if_pos r, if_neg ((phar h w).mp r)]; exact cgA_no h _
    rw [if_neg r, if_pos (Classical.byContradiction fun z => r ((phar h w).mpr z))]
    have o1 := h.2.2.2.2.1.1
    have o2 := h.2.2.2.2.1.2.1
    rw [o1]
    by_cases c7 : S 0 0 13 < 60
    · rw [if_pos c7, if_neg (show ¬ S 0 0 13 = 60 by simp only [Int32.lt_iff_toInt_lt, Int32.le_iff_toInt_le, ← Int32.toInt_inj, il0, il1, il2, il3, il4, il5, il6, il15, il16, il31, il32, il40, il60, il63, il64, il120, il290, il300, il1000, il10000, il100000, ln1, ln2, ln3, ln4, ln5, ln6, ln7, ln8, ln9, ln10] at c7 ⊢; omega)]
      have c7' : (S 0 0 13).toInt < 60 := by simp only [Int32.lt_iff_toInt_lt, Int32.le_iff_toInt_le, ← Int32.toInt_inj, il0, il1, il2, il3, il4, il5, il6, il15, il16, il31, il32, il40, il60, il63, il64, il120, il290, il300, il1000, il10000, il100000, ln1, ln2, ln3, ln4, ln5, ln6, ln7, ln8, ln9, ln10] at c7; omega
      have ea := add_i (x := S 0 0 13) (y := 1) (by rw [il1]; omega) (by rw [il1]; omega)
      rw [il1] at ea
      have es := sub1_i (x := S 0 0 13 + 1) (by omega)
      refine ⟨?_, ?_⟩
      · show S 0 0 13 = S 0 0 13 + 1 - 1
        exact Int32.toInt_inj.mp (by rw [es, ea]; omega)
      have ec := cl_i o2.1
      have hm := h.acc.mono
      rw [h.1.1] at hm
      obtain ⟨g1, g2, g3, g4, ⟨o1', o2', o3, o4, o5, o6⟩, g6, g7⟩ := hm
      have g5 : rO (aG G 4 (some (S 0 0 13).toNatClampNeg)) (up3 (up3 (upO S 14 ((S 0 0 13).toNatClampNeg) [x1, x3, x4, x2, 0, 0, 0]) 0 0 13 ((S 0 0 13) + 1)) 0 0 10 (S 0 0 8)) (up3 (up3 T 20 0 20 ((S 0 0 13) + 1)) 20 0 7 (S 0 0 8)) (up3 (up3 (up3 (up3 (up3 B 42 0 ((S 0 0 13).toNatClampNeg) x1) 43 0 ((S 0 0 13).toNatClampNeg) x2) 44 0 ((S 0 0 13).toNatClampNeg) x3) 45 0 ((S 0 0 13).toNatClampNeg) x4) 47 0 ((S 0 0 13).toNatClampNeg) (-1)) := by
        refine ⟨rfl, ?_, ?_, ?_, ?_, ?_⟩
        · show 0 ≤ (S 0 0 13 + 1).toInt ∧ (S 0 0 13 + 1).toInt ≤ 60
          omega
        · intro q hq
          have hq' : (S 0 0 13 + 1).toInt ≤ (q : Int) := hq
          rw [show aG G 4 (some (S 0 0 13).toNatClampNeg) 4 q = G 4 q from if_neg (fun y => by have := y.2; omega)]
          exact o3 q (show (S 0 0 13).toInt ≤ (q : Int) by omega)
        · intro q hq
          have hq' : (S 0 0 13 + 1).toInt ≤ (q : Int) := hq
          exact o4 q (show (S 0 0 13).toInt ≤ (q : Int) by omega)
        · intro q hq
          have e : up3 (up3 (up3 (up3 (up3 B 42 0 ((S 0 0 13).toNatClampNeg) x1) 43 0 ((S 0 0 13).toNatClampNeg) x2) 44 0 ((S 0 0 13).toNatClampNeg) x3) 45 0 ((S 0 0 13).toNatClampNeg) x4) 47 0 ((S 0 0 13).toNatClampNeg) (-1) 42 0 q = up3 B 42 0 ((S 0 0 13).toNatClampNeg) x1 42 0 q := rfl
          rw [e]
          by_cases f : q = (S 0 0 13).toNatClampNeg
          · rw [f, up3_s]; exact ⟨hx.1, hx.2.1⟩
          · rw [up3_n (fun z => f z.2.1)]; exact o5 q hq
        · intro q hq
          have hq' : (q : Int) < (S 0 0 13 + 1).toInt := hq
          by_cases f : q = (S 0 0 13).toNatClampNeg
          · subst f
            refine ⟨fun z => ?_, ?_, ?_, ?_, ?_, ?_, ?_, Or.inl ⟨?_, ?_⟩⟩
            · rw [show aG G 4 (some (S 0 0 13).toNatClampNeg) 4 (S 0 0 13).toNatClampNeg = some (S 0 0 13).toNatClampNeg from if_pos ⟨rfl, rfl⟩] at z
              exact absurd z (by simp)
            · exact (show _ = x1 from up3_s).trans (show _ = x1 from upO_s).symm
            · intro z
              have e : up3 (up3 (upO S 14 ((S 0 0 13).toNatClampNeg) [x1, x3, x4, x2, 0, 0, 0]) 0 0 13 ((S 0 0 13) + 1)) 0 0 10 (S 0 0 8) 14 (S 0 0 13).toNatClampNeg 0 = x1 := upO_s
              rw [e] at z
              exact hx.2.2 z
            · exact (show _ = x3 from up3_s).trans (show _ = x3 from upO_s).symm
            · exact (show _ = x4 from up3_s).trans (show _ = x4 from upO_s).symm
            · exact (show _ = x2 from up3_s).trans (show _ = x2 from upO_s).symm
            · exact (o4 _ (show (S 0 0 13).toInt ≤ ((S 0 0 13).toNatClampNeg : Int) by omega)).trans (show _ = (0 : Int32) from upO_s).symm
            · exact (show _ = (0 : Int32) from upO_s)
            · exact up3_s
          · have q0 := o6 q (show (q : Int) < (S 0 0 13).toInt by omega)
            have eS : ∀ k, up3 (up3 (upO S 14 ((S 0 0 13).toNatClampNeg) [x1, x3, x4, x2, 0, 0, 0]) 0 0 13 ((S 0 0 13) + 1)) 0 0 10 (S 0 0 8) 14 q k = S 14 q k := fun k => (show _ = upO S 14 ((S 0 0 13).toNatClampNeg) [x1, x3, x4, x2, 0, 0, 0] 14 q k from rfl).trans (upO_n (fun z => f z.2))
            have eG : aG G 4 (some (S 0 0 13).toNatClampNeg) 4 q = G 4 q := if_neg (fun y => f y.2)
            have eG2 : ∀ w, aG G 4 (some (S 0 0 13).toNatClampNeg) 2 w = G 2 w := fun w => rfl
            have e42 : ∀ v, up3 B 42 0 ((S 0 0 13).toNatClampNeg) v 42 0 q = B 42 0 q := fun v => up3_n (fun z => f z.2.1)
            have e43 : ∀ v, up3 B 43 0 ((S 0 0 13).toNatClampNeg) v 43 0 q = B 43 0 q := fun v => up3_n (fun z => f z.2.1)
            have e44 : ∀ v, up3 B 44 0 ((S 0 0 13).toNatClampNeg) v 44 0 q = B 44 0 q := fun v => up3_n (fun z => f z.2.1)
            have e45 : ∀ v, up3 B 45 0 ((S 0 0 13).toNatClampNeg) v 45 0 q = B 45 0 q := fun v => up3_n (fun z => f z.2.1)
            have e47 : ∀ v, up3 B 47 0 ((S 0 0 13).toNatClampNeg) v 47 0 q = B 47 0 q := fun v => up3_n (fun z => f z.2.1)
            obtain ⟨p1, p2, p3, p4, p5, p6, p7, p8⟩ := q0
            unfold rO1
            simp only [eS, eG, eG2]
            exact ⟨p1, (e42 x1).trans p2, p3, (e44 x3).trans p4, (e45 x4).trans p5, (e43 x2).trans p6, p7, p8.imp (fun z => ⟨z.1, (e47 (-1)).trans z.2⟩) (fun z => ⟨z.1, (e47 (-1)).trans z.2.1, z.2.2⟩)⟩
      obtain ⟨s1, s2, s3, s4, s5⟩ := g6
      refine ⟨g1, g2, g3, g4, g5, ⟨s1, s2, s3, s4, fun a => ?_⟩, g7⟩
      obtain ⟨z1, z2, z3, z4, z5, z6⟩ := s5 a
      refine ⟨z1, z2, z3, z4, fun b => ?_, z6⟩
      have z7 := z5 b
      refine ⟨z7.1, ?_⟩
      have z8 : (S 5 0 2).toInt < (S 0 0 13).toInt := z7.2
      show (S 5 0 2).toInt < (S 0 0 13 + 1).toInt
      omega
    · rw [if_neg c7, if_pos (show S 0 0 13 = 60 by simp only [Int32.lt_iff_toInt_lt, Int32.le_iff_toInt_le, ← Int32.toInt_inj, il0, il1, il2, il3, il4, il5, il6, il15, il16, il31, il32, il40, il60, il63, il64, il120, il290, il300, il1000, il10000, il100000, ln1, ln2, ln3, ln4, ln5, ln6, ln7, ln8, ln9, ln10] at c7 ⊢; omega)]; exact cgA_no h _
  · rw [if_neg c6, if_pos (show x4 ≤ S 0 0 8 by simp only [Int32.lt_iff_toInt_lt, Int32.le_iff_toInt_le, ← Int32.toInt_inj, il0, il1, il2, il3, il4, il5, il6, il15, il16, il31, il32, il40, il60, il63, il64, il120, il290, il300, il1000, il10000, il100000, ln1, ln2, ln3, ln4, ln5, ln6, ln7, ln8, ln9, ln10] at c6 ⊢; omega)]; exact cgA_no h _
end MAKE
