/-! the ledger's entries -/
def w6 (A : sS) (f c k : Nat) (x1 x2 x3 x4 x5 x6 : Int32) : sS := up3 (up3 (up3 (up3 (up3 (up3 A f c k x1) f c (k + 1) x2) f c (k + 2) x3) f c (k + 3) x4) f c (k + 4) x5) f c (k + 5) x6
def ch (k : Nat) (x1 x2 x3 x4 x5 x6 d : Int32) (i : Nat) : Int32 := if i = k + 5 then x6 else if i = k + 4 then x5 else if i = k + 3 then x4 else if i = k + 2 then x3 else if i = k + 1 then x2 else if i = k then x1 else d
theorem up3_i {A : sS} {f c k i : Nat} {v : Int32} : up3 A f c k v f c i = if i = k then v else A f c i := by
  by_cases e : i = k
  · rw [if_pos e, e, up3_s]
  · rw [if_neg e, up3_n (fun z => e z.2.1)]
theorem w6_i {A : sS} {f c k i : Nat} {x1 x2 x3 x4 x5 x6 : Int32} : w6 A f c k x1 x2 x3 x4 x5 x6 f c i = ch k x1 x2 x3 x4 x5 x6 (A f c i) i := by
  unfold w6 ch
  rw [up3_i, up3_i, up3_i, up3_i, up3_i, up3_i]
theorem w6_n {A : sS} {f c k f1 c1 i : Nat} {x1 x2 x3 x4 x5 x6 : Int32} (h : ¬ (f1 = f ∧ c1 = c)) : w6 A f c k x1 x2 x3 x4 x5 x6 f1 c1 i = A f1 c1 i := by
  unfold w6
  have h2 : ∀ j, ¬ (f1 = f ∧ i = j ∧ c1 = c) := fun j z => h ⟨z.1, z.2.2⟩
  rw [up3_n (h2 _), up3_n (h2 _), up3_n (h2 _), up3_n (h2 _), up3_n (h2 _), up3_n (h2 _)]
theorem w6_c {A : sS} {f c k f1 n1 k1 : Nat} {x1 x2 x3 x4 x5 x6 v : Int32} (h : ¬ f = f1) : w6 (up3 A f1 n1 k1 v) f c k x1 x2 x3 x4 x5 x6 = up3 (w6 A f c k x1 x2 x3 x4 x5 x6) f1 n1 k1 v := by
  funext a b d
  by_cases e : a = f1
  · have e2 : ¬ (a = f ∧ b = c) := fun z => h (z.1.symm.trans e)
    rw [w6_n e2]
    unfold up3
    rw [w6_n e2]
  · have e3 : ∀ X : sS, up3 X f1 n1 k1 v a b d = X a b d := fun X => up3_n (fun z => e z.1)
    rw [e3]
    by_cases e4 : a = f ∧ b = c
    · obtain ⟨rfl, rfl⟩ := e4
      rw [w6_i, w6_i, e3]
    · rw [w6_n e4, w6_n e4, e3]
theorem ch_in {k i : Nat} {x1 x2 x3 x4 x5 x6 d d1 : Int32} (h : k ≤ i) (h2 : i < k + 6) : ch k x1 x2 x3 x4 x5 x6 d i = ch k x1 x2 x3 x4 x5 x6 d1 i := by
  unfold ch
  by_cases c5 : i = k + 5
  · rw [if_pos c5, if_pos c5]
  by_cases c4 : i = k + 4
  · rw [if_neg c5, if_neg c5, if_pos c4, if_pos c4]
  by_cases c3 : i = k + 3
  · rw [if_neg c5, if_neg c5, if_neg c4, if_neg c4, if_pos c3, if_pos c3]
  by_cases c2 : i = k + 2
  · rw [if_neg c5, if_neg c5, if_neg c4, if_neg c4, if_neg c3, if_neg c3, if_pos c2, if_pos c2]
  by_cases c1 : i = k + 1
  · rw [if_neg c5, if_neg c5, if_neg c4, if_neg c4, if_neg c3, if_neg c3, if_neg c2, if_neg c2, if_pos c1, if_pos c1]
  have c0 : i = k := by omega
  rw [if_neg c5, if_neg c5, if_neg c4, if_neg c4, if_neg c3, if_neg c3, if_neg c2, if_neg c2, if_neg c1, if_neg c1, if_pos c0, if_pos c0]
theorem ch_out {k i : Nat} {x1 x2 x3 x4 x5 x6 d : Int32} (h : i < k) : ch k x1 x2 x3 x4 x5 x6 d i = d := by
  unfold ch
  rw [if_neg (by omega), if_neg (by omega), if_neg (by omega), if_neg (by omega), if_neg (by omega), if_neg (by omega)]
theorem ch_0 {k : Nat} {x1 x2 x3 x4 x5 x6 d : Int32} : ch k x1 x2 x3 x4 x5 x6 d k = x1 := by
  unfold ch
  rw [if_neg (by omega), if_neg (by omega), if_neg (by omega), if_neg (by omega), if_neg (by omega), if_pos rfl]
theorem ch_3 {k : Nat} {x1 x2 x3 x4 x5 x6 d : Int32} : ch k x1 x2 x3 x4 x5 x6 d (k + 3) = x4 := by
  unfold ch
  rw [if_neg (by omega), if_neg (by omega), if_pos rfl]
/-- what a write does to the copies -/
def wrA (A : sS) (k : Nat) (x1 x2 x3 x4 x5 x6 : Int32) : sS := if A 9 0 0 = 0 then if A 9 0 1 = 0 then w6 (w6 A 11 0 k x1 x2 x3 x4 x5 x6) 11 1 k x1 x2 x3 x4 x5 x6 else w6 A 11 0 k x1 x2 x3 x4 x5 x6 else if A 9 0 1 = 0 then w6 A 11 1 k x1 x2 x3 x4 x5 x6 else A
theorem wr_eq {S A : sS} {G : sG} {x1 x2 x3 x4 x5 x6 : Int32} (h : S 6 0 1 < 300) : O2_write S A G x1 x2 x3 x4 x5 x6 = (up3 S 6 0 1 (S 6 0 1 + 1), wrA A (6 * (S 6 0 1).toNatClampNeg) x1 x2 x3 x4 x5 x6) := by
  unfold O2_write wrA w6
  rw [if_pos h]
  by_cases c0 : A 9 0 0 = 0
  · rw [if_pos c0, if_pos c0]
    by_cases c1 : A 9 0 1 = 0
    · rw [if_pos c1, if_pos c1]
    · rw [if_neg c1, if_neg c1]
  · rw [if_neg c0, if_neg c0]
    by_cases c1 : A 9 0 1 = 0
    · rw [if_pos c1, if_pos c1]
    · rw [if_neg c1, if_neg c1]
theorem wr_n {A : sS} {k : Nat} {x1 x2 x3 x4 x5 x6 : Int32} {f c i : Nat} (h : ¬ f = 11) : wrA A k x1 x2 x3 x4 x5 x6 f c i = A f c i := by
  have h0 : ¬ (f = 11 ∧ c = 0) := fun z => h z.1
  have h1 : ¬ (f = 11 ∧ c = 1) := fun z => h z.1
  unfold wrA
  by_cases c0 : A 9 0 0 = 0
  · rw [if_pos c0]
    by_cases c1 : A 9 0 1 = 0
    · rw [if_pos c1, w6_n h1, w6_n h0]
    · rw [if_neg c1, w6_n h0]
  · rw [if_neg c0]
    by_cases c1 : A 9 0 1 = 0
    · rw [if_pos c1, w6_n h1]
    · rw [if_neg c1]
theorem wr_i {A : sS} {k : Nat} {x1 x2 x3 x4 x5 x6 : Int32} {c i : Nat} (hc : c < 2) (h : A 9 0 c = 0) : wrA A k x1 x2 x3 x4 x5 x6 11 c i = ch k x1 x2 x3 x4 x5 x6 (A 11 c i) i := by
  unfold wrA
  rcases (show c = 0 ∨ c = 1 by omega) with e | e
  · subst e
    rw [if_pos h]
    by_cases c1 : A 9 0 1 = 0
    · rw [if_pos c1, w6_n (by decide), w6_i]
    · rw [if_neg c1, w6_i]
  · subst e
    by_cases c0 : A 9 0 0 = 0
    · rw [if_pos c0, if_pos h, w6_i, w6_n (by decide)]
    · rw [if_neg c0, if_pos h, w6_i]
def cut11 (A : sS) : sS := fun f n k => if f = 11 then 0 else A f n k
def cut56 (A : sS) : sS := fun f n k => if f = 56 then 0 else A f n k
theorem cut11_wr {A : sS} {k : Nat} {x1 x2 x3 x4 x5 x6 : Int32} : cut11 (wrA A k x1 x2 x3 x4 x5 x6) = cut11 A := by
  funext f c i
  unfold cut11
  by_cases e : f = 11
  · rw [if_pos e, if_pos e]
  · rw [if_neg e, if_neg e, wr_n e]
theorem cut56_w6 {A : sS} {k : Nat} {x1 x2 x3 x4 x5 x6 : Int32} : cut56 (w6 A 56 0 k x1 x2 x3 x4 x5 x6) = cut56 A := by
  funext f c i
  unfold cut56
  by_cases e : f = 56
  · rw [if_pos e, if_pos e]
  · rw [if_neg e, if_neg e, w6_n (fun z => e z.1)]
section NOTE
variable {n : Nat} {S A : sS} {G : sG} {T B : sS} {G1 : sG}
/-- an entry in both ledgers; v is what told becomes meanwhile -/
theorem note_r (h : rR n S A G T B) (hs : (S 6 0 1).toInt < 300) {kd b u o : Int32} (hk : b.toInt < 0 ∨ kd = 1 ∨ kd = 2 ∨ kd = 3 ∨ kd = 4) : rR n (up3 (up3 S 6 0 1 (S 6 0 1 + 1)) 0 0 10 (S 0 0 8)) (wrA A (6 * (S 6 0 1).toNatClampNeg) kd (S 0 0 8) (S 0 0 9) b u o) G (O7_note T B G1 kd b u o).1 (O7_note T B G1 kd b u o).2 := by
  have e7 : O7_note T B G1 kd b u o = (up3 (up3 T 20 0 34 (T 20 0 34 + 1)) 20 0 7 (T 20 0 0), w6 B 56 0 (6 * (T 20 0 34).toNatClampNeg) kd (T 20 0 0) (T 20 0 6) b u o) := rfl
  rw [e7]
  have eA := cut11_wr (A := A) (k := 6 * (S 6 0 1).toNatClampNeg) (x1 := kd) (x2 := S 0 0 8) (x3 := S 0 0 9) (x4 := b) (x5 := u) (x6 := o)
  have eB := cut56_w6 (A := B) (k := 6 * (T 20 0 34).toNatClampNeg) (x1 := kd) (x2 := T 20 0 0) (x3 := T 20 0 6) (x4 := b) (x5 := u) (x6 := o)
  have l1 := h.2.2.2.2.2.2.2.1.1
  have t1 := h.1.1
  have t3 := h.1.2.2.1
  rw [l1, t1, t3] at eB ⊢
  obtain ⟨A1, hA1⟩ : ∃ A1, wrA A (6 * (S 6 0 1).toNatClampNeg) kd (S 0 0 8) (S 0 0 9) b u o = A1 := ⟨_, rfl⟩
  obtain ⟨B1, hB1⟩ : ∃ B1, w6 B 56 0 (6 * (S 6 0 1).toNatClampNeg) kd (S 0 0 8) (S 0 0 9) b u o = B1 := ⟨_, rfl⟩
  have vA : ∀ c, c < 2 → A 9 0 c = 0 → ∀ i, A1 11 c i = ch (6 * (S 6 0 1).toNatClampNeg) kd (S 0 0 8) (S 0 0 9) b u o (A 11 c i) i := fun c hc h0 i => by rw [← hA1]; exact wr_i hc h0
  have vB : ∀ i, B1 56 0 i = ch (6 * (S 6 0 1).toNatClampNeg) kd (S 0 0 8) (S 0 0 9) b u o (B 56 0 i) i := fun i => by rw [← hB1]; exact w6_i
  rw [hA1] at eA ⊢
  rw [hB1] at eB ⊢
  dsimp only
  have hm := h.acc
  rw [t1] at hm
  obtain ⟨g1, g2, g3, g4, g5, g6, g7, ⟨-, l2, l3, l4, l5⟩, g9⟩ := hm
  have hsz : 0 ≤ (S 6 0 1).toInt := l2.1
  have ec := cl_i hsz
  have ea := add_i (x := S 6 0 1) (y := 1) (by rw [il1]; omega) (by rw [il1]; omega)
  rw [il1] at ea
  have f2 : rU G S (cut56 B1) := by rw [eB]; exact g2
  have f3 : rI G S (cut56 B1) := by rw [eB]; exact g3
  have f4 : rB G S (cut11 A1) (cut56 B1) := by rw [eA, eB]; exact g4
  have f5 : rO G S T (cut56 B1) := by rw [eB]; exact g5
  have f8 : (cut56 B1) 57 0 0 = (cut11 A1) 9 0 0 ∧ (cut56 B1) 57 0 1 = (cut11 A1) 9 0 1 := by rw [eA, eB]; exact l3
  have f9 : rM S (cut11 A1) T (cut56 B1) := by rw [eA, eB]; exact g9
  refine ⟨g1, f2, f3, f4, f5, g6, g7, ⟨rfl, ?_, f8, ?_, ?_⟩, f9⟩
  · show 0 ≤ (S 6 0 1 + 1).toInt ∧ (S 6 0 1 + 1).toInt ≤ 300
    omega
  · intro c hc h0 i hi
    have hi' : (i : Int) < 6 * (S 6 0 1 + 1).toInt := hi
    have h0' : A 9 0 c = 0 := by
      have q : (cut11 A1) 9 0 c = (cut11 A) 9 0 c := by rw [eA]
      exact (show A 9 0 c = A1 9 0 c from q.symm).trans h0
    rw [vA c hc h0' i, vB i]
    by_cases d : i < 6 * (S 6 0 1).toNatClampNeg
    · rw [ch_out d, ch_out d]
      exact l4 c hc h0' i (show (i : Int) < 6 * (S 6 0 1).toInt by omega)
    · exact ch_in (by omega) (by omega)
  · intro j hj
    have hj' : (j : Int) < (S 6 0 1 + 1).toInt := hj
    rw [vB, vB]
    by_cases d : j < (S 6 0 1).toNatClampNeg
    · rw [ch_out (show 6 * j + 3 < 6 * (S 6 0 1).toNatClampNeg by omega), ch_out (show 6 * j < 6 * (S 6 0 1).toNatClampNeg by omega)]
      exact l5 j (show (j : Int) < (S 6 0 1).toInt by omega)
    · have e : j = (S 6 0 1).toNatClampNeg := by omega
      rw [e, ch_3, ch_0]
      exact hk
theorem co_giveBack (h : rR n S A G T B) (x1 x2 : Int32) : cg n G (O6_giveBack S A G x1 x2) (O7_giveBack T B G1 x1 x2) := by
  have hi := isItem_eq (G1 := G1) h x1
  have hL := h.2.2.2.2.2.2.2.1.1
  have hw0 := wat_0 (G1 := G1) h
  unfold O6_giveBack O7_giveBack
  rw [← hi]
  by_cases c1 : V6_isItem S A G x1 = 0
  · rw [if_pos c1, if_pos c1]; exact cg_no h _
  rw [if_neg c1, if_neg c1]
  have hx := isItem_r c1
  by_cases c2 : x2 < 1
  · rw [if_pos c2, if_pos (in0.mpr (Or.inl c2))]; exact cg_no h _
  by_cases c3 : x2 ≤ 1000
  · rw [if_neg c2, if_pos c3, if_neg (fun z => (in0.mp z).elim c2 (fun z => by simp only [Int32.lt_iff_toInt_lt, Int32.le_iff_toInt_le, ← Int32.toInt_inj, il0, il1, il2, il3, il4, il5, il6, il15, il16, il31, il32, il40, il60, il63, il64, il120, il290, il300, il1000, il10000, il100000, ln1, ln2, ln3, ln4, ln5, ln6, ln7, ln8, ln9, ln10] at z c3; omega))]
    have fin : S 6 0 1 < 290 → cg n G (O6_giveBack_74 (O2_write (up3 S 13 (x1.toNatClampNeg) 2 ((S 13 (x1.toNatClampNeg) 2) + x2)) A G 5 (S 0 0 8) (S 0 0 9) ((-1) - x1) x2 (-1)).1 (O2_write (up3 S 13 (x1.toNatClampNeg) 2 ((S 13 (x1.toNatClampNeg) 2) + x2)) A G 5 (S 0 0 8) (S 0 0 9) ((-1) - x1) x2 (-1)).2 G x1 x2 0) (O7_giveBack_135 (O7_note T (up3 B 34 0 (x1.toNatClampNeg) ((B 34 0 (x1.toNatClampNeg)) + x2)) G1 5 ((-1) - x1) x2 (-1)).1 (O7_note T (up3 B 34 0 (x1.toNatClampNeg) ((B 34 0 (x1.toNatClampNeg)) + x2)) G1 5 ((-1) - x1) x2 (-1)).2 G1 x1 x2 0) := fun hs => by
      have hs' : (S 6 0 1).toInt < 290 := by simp only [Int32.lt_iff_toInt_lt, Int32.le_iff_toInt_le, ← Int32.toInt_inj, il0, il1, il2, il3, il4, il5, il6, il15, il16, il31, il32, il40, il60, il63, il64, il120, il290, il300, il1000, il10000, il100000, ln1, ln2, ln3, ln4, ln5, ln6, ln7, ln8, ln9, ln10] at hs; omega
      have e34 := ((h.2.2.1 _ (cl_lt hx.1 hx.2.1)).2 hx.2.2).2.2.2.1
      have h1 : rR n (up3 S 13 x1.toNatClampNeg 2 (S 13 x1.toNatClampNeg 2 + x2)) A G T (up3 B 34 0 x1.toNatClampNeg (B 34 0 x1.toNatClampNeg + x2)) := by
        obtain ⟨g1, g2, g3, g4⟩ := h
        refine ⟨g1, g2, fun w hw => ?_, g4⟩
        by_cases e : w = x1.toNatClampNeg
        · subst e
          refine ⟨fun z => absurd z hx.2.2, fun z => ?_⟩
          obtain ⟨q1, q2, q3, q4, q5⟩ := (g3 _ hw).2 z
          refine ⟨q1, q2, q3, ?_, q5⟩
          rw [up3_s, up3_s, e34]
        · have q := g3 w hw
          have e1 : up3 B 34 0 x1.toNatClampNeg (B 34 0 x1.toNatClampNeg + x2) 34 0 w = B 34 0 w := up3_n (fun z => e z.2.1)
          have e2 : up3 S 13 x1.toNatClampNeg 2 (S 13 x1.toNatClampNeg 2 + x2) 13 w 2 = S 13 w 2 := up3_n (fun z => e z.2.2)
          unfold rI1 at q ⊢
          rw [e1, e2]
          exact q
      have hb : ((-1 : Int32) - x1).toInt < 0 := by
        rw [sub_i (by rw [ln1]; omega) (by rw [ln1]; omega), ln1]
        omega
      have h2 := note_r (G1 := G1) h1 (show (S 6 0 1).toInt < 300 by omega) (kd := 5) (b := (-1) - x1) (u := x2) (o := -1) (Or.inl hb)
      rw [wr_eq (show up3 S 13 x1.toNatClampNeg 2 (S 13 x1.toNatClampNeg 2 + x2) 6 0 1 < 300 from Int32.lt_iff_toInt_lt.mpr (by rw [il300]; show (S 6 0 1).toInt < 300; omega))]
      refine ⟨?_, h2.mono⟩
      have q1 : up3 S 13 x1.toNatClampNeg 2 (S 13 x1.toNatClampNeg 2 + x2) 13 x1.toNatClampNeg 2 = S 13 x1.toNatClampNeg 2 + x2 := up3_s
      have q2 : up3 B 34 0 x1.toNatClampNeg (B 34 0 x1.toNatClampNeg + x2) 34 0 x1.toNatClampNeg = B 34 0 x1.toNatClampNeg + x2 := up3_s
      show up3 S 13 x1.toNatClampNeg 2 (S 13 x1.toNatClampNeg 2 + x2) 13 x1.toNatClampNeg 2 = up3 B 34 0 x1.toNatClampNeg (B 34 0 x1.toNatClampNeg + x2) 34 0 x1.toNatClampNeg
      rw [q1, q2, e34]
    unfold V6_refusalWithoutStep
    by_cases w : S 0 0 9 = -1
    · simp only [if_pos w]
      rw [if_neg (show ¬ (-2 : Int32) = 0 by decide), if_neg (fun z => (who_ge h).mp z w)]; exact cg_no h _
    simp only [if_neg w]
    rw [if_pos ((who_ge h).mpr w)]
    by_cases r : V6_isHandlerIn S A G = 0
    · simp only [if_pos r]
      rw [if_neg (show ¬ (-3 : Int32) = 0 by decide), if_pos ((hand h w).mp r)]; exact cg_no h _
    simp only [if_neg r]
    rw [if_neg (fun z => r ((hand h w).mpr z))]
    by_cases a : S 5 0 0 = -1
    · have a1 := opn (S := S) (A := A) (G := G) |>.mpr a
      simp only [if_pos a1]
      rw [if_pos ((act_lt h).mpr a), hL]
      have hc := ctl h hx.1 hx.2.1 hx.2.2
      by_cases c4 : S 6 0 1 < 290
      · simp only [if_pos c4]
        by_cases k : V6_isControlled S A G x1 = 0
        · simp only [if_pos k, if_pos (hc.mp k)]
          rw [if_pos trivial]; exact fin c4
        · simp only [if_neg k, if_neg (fun z => k (hc.mpr z))]
          by_cases v : S 0 0 11 = -1
          · simp only [if_pos v, if_pos (hw0.mpr v)]
            rw [if_neg (show ¬ (-5 : Int32) = 0 by decide)]; exact cg_no h _
          · simp only [if_neg v, if_neg (fun z => v (hw0.mp z))]
            rw [if_pos trivial]; exact fin c4
      · simp only [if_neg c4]
        by_cases k : V6_isControlled S A G x1 = 0
        · simp only [if_pos k, if_pos (hc.mp k)]
          rw [if_neg (show ¬ (-8 : Int32) = 0 by decide)]; exact cg_no h _
        · simp only [if_neg k, if_neg (fun z => k (hc.mpr z))]
          by_cases v : S 0 0 11 = -1
          · simp only [if_pos v, if_pos (hw0.mpr v)]
            rw [if_neg (show ¬ (-5 : Int32) = 0 by decide)]; exact cg_no h _
          · simp only [if_neg v, if_neg (fun z => v (hw0.mp z))]
            rw [if_neg (show ¬ (-8 : Int32) = 0 by decide)]; exact cg_no h _
    · have a1 : ¬ V4_isOpen S A G = 0 := fun z => a (opn.mp z)
      simp only [if_neg a1]
      rw [if_neg (show ¬ (-4 : Int32) = 0 by decide), if_neg (fun z => a ((act_lt h).mp z))]; exact cg_no h _
  · rw [if_neg c2, if_neg c3, if_pos (in0.mpr (Or.inr (by simp only [Int32.lt_iff_toInt_lt, Int32.le_iff_toInt_le, ← Int32.toInt_inj, il0, il1, il2, il3, il4, il5, il6, il15, il16, il31, il32, il40, il60, il63, il64, il120, il290, il300, il1000, il10000, il100000, ln1, ln2, ln3, ln4, ln5, ln6, ln7, ln8, ln9, ln10] at c3 ⊢; omega)))]; exact cg_no h _
end NOTE
