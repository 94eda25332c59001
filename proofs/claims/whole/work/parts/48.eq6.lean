/-! a bin is written; count -/
theorem neg_i {x : Int32} (h : -2147483648 < x.toInt) : (-x).toInt = -x.toInt := by
  have h2 := Int32.toInt_lt x
  rw [Int32.toInt_neg, Int.bmod_eq_of_le] <;> omega
theorem up3_e {S : sS} {f n k : Nat} : up3 S f n k (S f n k) = S := by
  funext a b c
  unfold up3
  by_cases e : a = f ∧ c = k ∧ b = n
  · rw [if_pos e, e.1, e.2.1, e.2.2]
  · rw [if_neg e]
def fBB (b : Nat) (B B1 : sS) : Prop := ∀ f n k, ¬ ((k = b ∧ (f = 35 ∨ f = 36 ∨ f = 39 ∨ f = 40)) ∨ ((f = 37 ∨ f = 38) ∧ 6 * b ≤ k ∧ k < 6 * b + 6)) → B1 f n k = B f n k
theorem fB_BB {b : Nat} {B B1 : sS} (h : fB b B B1) : fBB b B B1 := fun f n k z => h f n k (fun y => z (y.imp (fun w => ⟨w.2, Or.inr (Or.inl w.1)⟩) id))
theorem fBB_35 {b : Nat} {B B1 : sS} {v : Int32} (h : fBB b B B1) : fBB b B (up3 B1 35 0 b v) := fun f n k z => (up3_n (fun y => z (Or.inl ⟨y.2.1, Or.inl y.1⟩))).trans (h f n k z)
theorem fBB_39 {b : Nat} {B B1 : sS} {v : Int32} (h : fBB b B B1) : fBB b B (up3 B1 39 0 b v) := fun f n k z => (up3_n (fun y => z (Or.inl ⟨y.2.1, Or.inr (Or.inr (Or.inl y.1))⟩))).trans (h f n k z)
theorem fBB_40 {b : Nat} {B B1 : sS} {v : Int32} (h : fBB b B B1) : fBB b B (up3 B1 40 0 b v) := fun f n k z => (up3_n (fun y => z (Or.inl ⟨y.2.1, Or.inr (Or.inr (Or.inr y.1))⟩))).trans (h f n k z)
def fS (b : Nat) (S S1 : sS) : Prop := ∀ f n k, ¬ (f = 15 ∧ n = b) → S1 f n k = S f n k
theorem fS_r {b : Nat} {S : sS} : fS b S S := fun _ _ _ _ => rfl
theorem fS_u {b : Nat} {S S1 : sS} {j : Nat} {v : Int32} (h : fS b S S1) : fS b S (up3 S1 15 b j v) := fun f n k z => (up3_n (fun y => z ⟨y.1, y.2.2⟩)).trans (h f n k z)
def cut15 (S : sS) : sS := fun f n k => if f = 15 then 0 else S f n k
def cut16 (S : sS) : sS := fun f n k => if f = 16 then 0 else if f = 17 then 0 else S f n k
def cut35 (S : sS) : sS := fun f n k => if 35 ≤ f ∧ f ≤ 40 then 0 else S f n k
section BIN
variable {n : Nat} {S A : sS} {G : sG} {T B : sS} {G1 : sG}
theorem rR.bin (h : rR n S A G T B) {b : Nat} {S1 A1 B1 : sS} (cS : fS b S S1) (cA : fA b A A1) (cB : fBB b B B1) (h1 : rB1 G S1 A1 B1 b) (hF : rF S1) : rR n S1 A1 G T B1 := by
  have eS : cut15 S1 = cut15 S := by
    funext f m k
    unfold cut15
    by_cases e : f = 15
    · rw [if_pos e, if_pos e]
    · rw [if_neg e, if_neg e, cS f m k (fun z => e z.1)]
  have eA : cut16 A1 = cut16 A := by
    funext f m k
    unfold cut16
    by_cases e : f = 16
    · rw [if_pos e, if_pos e]
    · rw [if_neg e, if_neg e]
      by_cases e2 : f = 17
      · rw [if_pos e2, if_pos e2]
      · rw [if_neg e2, if_neg e2, cA f m k (fun z => z.1.elim e e2)]
  have eB : cut35 B1 = cut35 B := by
    funext f m k
    unfold cut35
    by_cases e : 35 ≤ f ∧ f ≤ 40
    · rw [if_pos e, if_pos e]
    · rw [if_neg e, if_neg e, cB f m k (fun z => by omega)]
  obtain ⟨g1, g2, g3, g4, g5, g6, g7, g8, g9⟩ := h
  have f1 : rT n (cut15 S1) T := by rw [eS]; exact g1
  have f2 : rU G (cut15 S1) (cut35 B1) := by rw [eS, eB]; exact g2
  have f3 : rI G (cut15 S1) (cut35 B1) := by rw [eS, eB]; exact g3
  have f5 : rO G (cut15 S1) T (cut35 B1) := by rw [eS, eB]; exact g5
  have f6 : rS (cut15 S1) T := by rw [eS]; exact g6
  have f8 : rL (cut15 S1) (cut16 A1) T (cut35 B1) := by rw [eS, eA, eB]; exact g8
  have f9 : rM (cut15 S1) (cut16 A1) T (cut35 B1) := by rw [eS, eA, eB]; exact g9
  refine ⟨f1, f2, f3, fun w hw => ?_, f5, f6, hF, f8, f9⟩
  by_cases e : w = b
  · rw [e]; exact h1
  · obtain ⟨q1, q2, q3, q4, q5, ⟨l0, l6⟩, q6, q7⟩ := g4 w hw
    have s1 : ∀ k, S1 15 w k = S 15 w k := fun k => cS _ _ _ (fun z => e z.2)
    have a16 : A1 16 w = A 16 w := funext fun k => cA _ _ _ (fun z => e z.2)
    have a17 : A1 17 w = A 17 w := funext fun k => cA _ _ _ (fun z => e z.2)
    have b35 : B1 35 0 w = B 35 0 w := cB _ _ _ (fun z => z.elim (fun y => e y.1) (fun y => by omega))
    have b36 : B1 36 0 w = B 36 0 w := cB _ _ _ (fun z => z.elim (fun y => e y.1) (fun y => by omega))
    have b39 : B1 39 0 w = B 39 0 w := cB _ _ _ (fun z => z.elim (fun y => e y.1) (fun y => by omega))
    have b40 : B1 40 0 w = B 40 0 w := cB _ _ _ (fun z => z.elim (fun y => e y.1) (fun y => by omega))
    have b37 : ∀ k, k < 6 → B1 37 0 (6 * w + k) = B 37 0 (6 * w + k) := fun k hk => cB _ _ _ (fun z => by omega)
    have b38 : ∀ k, k < 6 → B1 38 0 (6 * w + k) = B 38 0 (6 * w + k) := fun k hk => cB _ _ _ (fun z => by omega)
    unfold rB1 lotR
    rw [s1, s1, s1, s1, a16, a17, b35, b36, b39, b40]
    refine ⟨q1, q2, q3, q4, q5, ⟨l0, l6⟩, fun k hk => ?_, q7⟩
    have hk6 : k < 6 := by omega
    have := q6 k hk
    exact ⟨(b37 k hk6).trans this.1, (b38 k hk6).trans this.2.1, this.2.2⟩
/-- the class counts, the reference counts: the lots as they then stand -/
theorem cnt_bin (h : rR n S A G T B) (hb : (S 5 0 1).toNatClampNeg < 64) (ho : ¬ S 5 0 0 = -1) (hk : ¬ S 5 0 0 = 1) {A1 B1 : sS} {v d : Int32} (hA : fA (S 5 0 1).toNatClampNeg A A1) (hB : fB (S 5 0 1).toNatClampNeg B B1) (e36 : B1 36 0 (S 5 0 1).toNatClampNeg = v) (hl : lotR v.toInt (A1 16 (S 5 0 1).toNatClampNeg) (A1 17 (S 5 0 1).toNatClampNeg) (fun k => B1 38 0 (6 * (S 5 0 1).toNatClampNeg + k)) (fun k => B1 37 0 (6 * (S 5 0 1).toNatClampNeg + k))) : rR n (up3 (up3 (up3 S 15 (S 5 0 1).toNatClampNeg 4 d) 15 (S 5 0 1).toNatClampNeg 5 1) 15 (S 5 0 1).toNatClampNeg 3 v) A1 G T (up3 (up3 B1 39 0 (S 5 0 1).toNatClampNeg d) 40 0 (S 5 0 1).toNatClampNeg 1) := by
  have hi := (h.2.2.2.2.2.2.1 ho).2 hk
  obtain ⟨q1, q2, q3, q4, q5, q6⟩ := h.2.2.2.1 _ hb
  refine h.bin (fS_u (fS_u (fS_u fS_r))) hA (fBB_40 (fBB_39 (fB_BB hB))) ?_ (fun _ => ⟨fun z => absurd z hk, fun _ => hi⟩)
  have s3 : up3 (up3 (up3 S 15 (S 5 0 1).toNatClampNeg 4 d) 15 (S 5 0 1).toNatClampNeg 5 1) 15 (S 5 0 1).toNatClampNeg 3 v 15 (S 5 0 1).toNatClampNeg 3 = v := up3_s
  have s4 : up3 (up3 (up3 S 15 (S 5 0 1).toNatClampNeg 4 d) 15 (S 5 0 1).toNatClampNeg 5 1) 15 (S 5 0 1).toNatClampNeg 3 v 15 (S 5 0 1).toNatClampNeg 4 = d := up3_s (S := S) (f := 15) (n := (S 5 0 1).toNatClampNeg) (k := 4) (v := d)
  have s5 : up3 (up3 (up3 S 15 (S 5 0 1).toNatClampNeg 4 d) 15 (S 5 0 1).toNatClampNeg 5 1) 15 (S 5 0 1).toNatClampNeg 3 v 15 (S 5 0 1).toNatClampNeg 5 = 1 := up3_s (S := up3 S 15 (S 5 0 1).toNatClampNeg 4 d) (f := 15) (n := (S 5 0 1).toNatClampNeg) (k := 5) (v := 1)
  have b39 : up3 (up3 B1 39 0 (S 5 0 1).toNatClampNeg d) 40 0 (S 5 0 1).toNatClampNeg 1 39 0 (S 5 0 1).toNatClampNeg = d := up3_s (S := B1) (f := 39) (n := 0) (k := (S 5 0 1).toNatClampNeg) (v := d)
  have b40 : up3 (up3 B1 39 0 (S 5 0 1).toNatClampNeg d) 40 0 (S 5 0 1).toNatClampNeg 1 40 0 (S 5 0 1).toNatClampNeg = 1 := up3_s
  have b35 : B1 35 0 (S 5 0 1).toNatClampNeg = B 35 0 (S 5 0 1).toNatClampNeg := hB _ _ _ (fun z => by omega)
  unfold rB1
  rw [s3, s4, s5, b39, b40]
  exact ⟨b35.trans q1, e36, rfl, rfl, Or.inr (q5.resolve_left (fun z => hi z.1)), hl⟩
theorem cnt_fin (hc : ∀ x : Int32, x = T 20 0 28 → rR n S A G T (up3 (up3 B 39 0 x.toNatClampNeg (S 15 (S 5 0 1).toNatClampNeg 4)) 40 0 x.toNatClampNeg 1)) (ho : ¬ S 5 0 0 = -1) (hs : (S 6 0 1).toInt < 300) {x1 z2 z3 d : Int32} (hd : d = S 15 (S 5 0 1).toNatClampNeg 4) : cg n G (O6_count_75 S A G x1 (S 5 0 1).toNatClampNeg) (O7_count_188 T B G1 x1 z2 z3 (T 20 0 28) d) := by
  have hc := hc _ rfl
  have h2 : rR n (up3 (up3 S 5 0 5 1) 5 0 4 0) A G (up3 T 20 0 32 1) (up3 (up3 B 39 0 (T 20 0 28).toNatClampNeg (S 15 (S 5 0 1).toNatClampNeg 4)) 40 0 (T 20 0 28).toNatClampNeg 1) := by
    obtain ⟨g1, g2, g3, g4, g5, ⟨s1, s2, s3, s4, s5⟩, g7, g8⟩ := hc
    refine ⟨g1, g2, g3, g4, g5, ⟨s1, s2, s3, fun z => absurd z ho, fun _ => ?_⟩, g7, g8⟩
    obtain ⟨q1, q2, q3, q4, q5, q6, -⟩ := s5 ho
    exact ⟨q1, q2, q3, q4, q5, q6, fun z => absurd z n10, fun _ => ⟨rfl, n10⟩, fun _ => Iff.rfl⟩
  have q := hc.2.2.2.2.2.1.2.2.2.2 ho
  have h3 := note_r (G1 := G1) h2 hs (kd := 3) (b := S 5 0 1) (u := S 15 (S 5 0 1).toNatClampNeg 4) (o := S 5 0 2) (Or.inr (Or.inr (Or.inr (Or.inl rfl))))
  have hs' : up3 (up3 S 5 0 5 1) 5 0 4 0 6 0 1 < 300 := Int32.lt_iff_toInt_lt.mpr (by rw [il300]; exact hs)
  unfold O6_count_75 O7_count_188
  rw [wr_eq hs', hd, q.2.1]
  rw [q.1] at h3 ⊢
  exact ⟨rfl, h3.mono⟩
theorem takesC (h : rR n S A G T B) : V4_takesCount S A G = 0 ↔ (T 20 0 27 < 0 ∨ T 20 0 27 = 1 ∨ ¬ T 20 0 33 = 0 ∨ ¬ T 20 0 32 = 0) := by
  have ha := act_lt h
  obtain ⟨s1, s2, s3, s4, s5⟩ := h.2.2.2.2.2.1
  unfold V4_takesCount
  by_cases a : S 5 0 0 = -1
  · rw [if_pos (opn.mpr a)]; exact ⟨fun _ => Or.inl (ha.mpr a), fun _ => rfl⟩
  rw [if_neg (fun z => a (opn.mp z))]
  obtain ⟨q1, q2, q3, q4, q5, q6, q7, q8, q9⟩ := s5 a
  have na : ¬ T 20 0 27 < 0 := fun z => a (ha.mp z)
  by_cases b : S 5 0 0 = 1
  · rw [if_pos b]; exact ⟨fun _ => Or.inr (Or.inl (s1.trans b)), fun _ => rfl⟩
  have nb : ¬ T 20 0 27 = 1 := fun z => b (s1.symm.trans z)
  rw [if_neg b, q4]
  by_cases c : S 5 0 6 = 0
  · rw [if_pos c]
    by_cases d : T 20 0 32 = 0
    · have no : ¬ (T 20 0 27 < 0 ∨ T 20 0 27 = 1 ∨ ¬ S 5 0 6 = 0 ∨ ¬ T 20 0 32 = 0) := fun z => z.elim na (fun z => z.elim nb (fun z => z.elim (fun y => y c) (fun y => y d)))
      by_cases e : S 5 0 4 = 0
      · rw [if_pos e, if_pos ((q7 d).2 e)]; exact ⟨fun z => absurd z n10, fun z => absurd z no⟩
      · rw [if_neg e]; exact ⟨fun z => absurd z n10, fun z => absurd z no⟩
    · rw [if_pos (q8 d).1, if_neg (q8 d).2]; exact ⟨fun _ => Or.inr (Or.inr (Or.inr d)), fun _ => rfl⟩
  · rw [if_neg c]; exact ⟨fun _ => Or.inr (Or.inr (Or.inl c)), fun _ => rfl⟩
theorem co_count (h : rR n S A G T B) (x1 : Int32) : cg n G (O6_count S A G x1) (O7_count T B G1 x1) := by
  have htc := takesC h
  have hL := h.2.2.2.2.2.2.2.1.1
  have hL2 := h.2.2.2.2.2.2.2.1.2.1
  unfold O6_count O7_count
  by_cases c1 : x1 < 0
  · simp only [if_pos c1, if_pos (in0.mpr (Or.inl c1) : V7_in T B G1 x1 0 10000 = 0), ite_self]; exact cg_no h _
  by_cases c2 : x1 ≤ 10000
  · have hin : ¬ V7_in T B G1 x1 0 10000 = 0 := fun z => (in0.mp z).elim c1 (fun z => by simp only [Int32.lt_iff_toInt_lt, Int32.le_iff_toInt_le, ← Int32.toInt_inj, il0, il1, il2, il3, il4, il5, il6, il15, il16, il31, il32, il40, il60, il63, il64, il120, il290, il300, il1000, il10000, il100000, ln1, ln2, ln3, ln4, ln5, ln6, ln7, ln8, ln9, ln10] at z c2; omega)
    simp only [if_neg c1, if_pos c2, if_neg hin]
    by_cases w : S 0 0 9 = -1
    · have w' : ¬ 0 ≤ T 20 0 6 := fun z => (who_ge h).mp z w
      simp only [if_pos w, if_neg w', ite_self]; exact cg_no h _
    have w' := (who_ge h).mpr w
    simp only [if_neg w, if_pos w']
    by_cases t : V4_takesCount S A G = 0
    · rw [if_pos t]
      rcases htc.mp t with z | z | z | z
      · simp only [if_pos z]; exact cg_no h _
      · simp only [if_pos z, ite_self]; exact cg_no h _
      · simp only [if_neg z, ite_self]; exact cg_no h _
      · simp only [if_neg z, ite_self]; exact cg_no h _
    have t' : ¬ (T 20 0 27 < 0 ∨ T 20 0 27 = 1 ∨ ¬ T 20 0 33 = 0 ∨ ¬ T 20 0 32 = 0) := fun z => t (htc.mpr z)
    have t1 : ¬ T 20 0 27 < 0 := fun z => t' (Or.inl z)
    have t2 : ¬ T 20 0 27 = 1 := fun z => t' (Or.inr (Or.inl z))
    have t3 : T 20 0 33 = 0 := Classical.byContradiction fun z => t' (Or.inr (Or.inr (Or.inl z)))
    have t4 : T 20 0 32 = 0 := Classical.byContradiction fun z => t' (Or.inr (Or.inr (Or.inr z)))
    rw [if_neg t, if_neg t1, if_neg t2, if_pos t3, if_pos t4, hL]
    have ho : ¬ S 5 0 0 = -1 := fun z => t1 ((act_lt h).mpr z)
    have hk : ¬ S 5 0 0 = 1 := fun z => t2 (h.2.2.2.2.2.1.1.trans z)
    by_cases c3 : S 6 0 1 < 300
    · rw [if_pos c3, if_neg (show ¬ S 6 0 1 = 300 by simp only [Int32.lt_iff_toInt_lt, Int32.le_iff_toInt_le, ← Int32.toInt_inj, il0, il1, il2, il3, il4, il5, il6, il15, il16, il31, il32, il40, il60, il63, il64, il120, il290, il300, il1000, il10000, il100000, ln1, ln2, ln3, ln4, ln5, ln6, ln7, ln8, ln9, ln10] at c3 ⊢; omega)]
      have hs : (S 6 0 1).toInt < 300 := by simp only [Int32.lt_iff_toInt_lt, Int32.le_iff_toInt_le, ← Int32.toInt_inj, il0, il1, il2, il3, il4, il5, il6, il15, il16, il31, il32, il40, il60, il63, il64, il120, il290, il300, il1000, il10000, il100000, ln1, ln2, ln3, ln4, ln5, ln6, ln7, ln8, ln9, ln10] at c3; omega
      have e28 := (h.2.2.2.2.2.1.2.2.2.2 ho).1
      have hx : 0 ≤ (T 20 0 28).toInt ∧ (T 20 0 28).toInt < 64 := h.2.2.2.2.2.1.2.2.1
      have hb : (S 5 0 1).toNatClampNeg < 64 := by rw [← e28]; exact cl_lt hx.1 hx.2
      obtain ⟨l, p, bk, gv, hl, hl6, hpl, -, -, b1, b2, -, -, b3, -, ⟨b4, -⟩, -⟩ := bin_v (G1 := G1) h hx
      obtain ⟨q1, q2, q3, q4, q5, hlot⟩ := h.2.2.2.1 _ hb
      rw [b2]
      have hxs : 0 ≤ x1.toInt ∧ x1.toInt ≤ 10000 := by simp only [Int32.lt_iff_toInt_lt, Int32.le_iff_toInt_le, ← Int32.toInt_inj, il0, il1, il2, il3, il4, il5, il6, il15, il16, il31, il32, il40, il60, il63, il64, il120, il290, il300, il1000, il10000, il100000, ln1, ln2, ln3, ln4, ln5, ln6, ln7, ln8, ln9, ln10] at c1 c2; omega
      have es := sub_i (x := x1) (y := bk) (by omega) (by omega)
      rw [e28] at b1 b3 hl
      unfold O0_correctTo
      rw [b1]
      obtain ⟨d, hd⟩ : ∃ d, x1 - bk = d := ⟨_, rfl⟩
      rw [hd] at es ⊢
      have s4 : ∀ v, up3 (up3 (up3 S 15 (S 5 0 1).toNatClampNeg 4 d) 15 (S 5 0 1).toNatClampNeg 5 1) 15 (S 5 0 1).toNatClampNeg 3 v 15 (S 5 0 1).toNatClampNeg 4 = d := fun v => up3_s (S := S) (f := 15) (n := (S 5 0 1).toNatClampNeg) (k := 4) (v := d)
      have same : up3 (up3 (up3 S 15 (S 5 0 1).toNatClampNeg 4 d) 15 (S 5 0 1).toNatClampNeg 5 1) 15 (S 5 0 1).toNatClampNeg 3 (S 15 (S 5 0 1).toNatClampNeg 3) = up3 (up3 S 15 (S 5 0 1).toNatClampNeg 4 d) 15 (S 5 0 1).toNatClampNeg 5 1 := up3_e (S := up3 (up3 S 15 (S 5 0 1).toNatClampNeg 4 d) 15 (S 5 0 1).toNatClampNeg 5 1)
      -- every way ends so
      have fin : ∀ (A1 B1 : sS) (v : Int32), fA (S 5 0 1).toNatClampNeg A A1 → fB (S 5 0 1).toNatClampNeg B B1 → B1 36 0 (S 5 0 1).toNatClampNeg = v → lotR v.toInt (A1 16 (S 5 0 1).toNatClampNeg) (A1 17 (S 5 0 1).toNatClampNeg) (fun k => B1 38 0 (6 * (S 5 0 1).toNatClampNeg + k)) (fun k => B1 37 0 (6 * (S 5 0 1).toNatClampNeg + k)) → cg n G (O6_count_75 (up3 (up3 (up3 S 15 (S 5 0 1).toNatClampNeg 4 d) 15 (S 5 0 1).toNatClampNeg 5 1) 15 (S 5 0 1).toNatClampNeg 3 v) A1 G x1 (S 5 0 1).toNatClampNeg) (O7_count_188 T B1 G1 x1 1 0 (T 20 0 28) d) := fun A1 B1 v hA hB h36 hlo => by
        refine cnt_fin (S := up3 (up3 (up3 S 15 (S 5 0 1).toNatClampNeg 4 d) 15 (S 5 0 1).toNatClampNeg 5 1) 15 (S 5 0 1).toNatClampNeg 3 v) (fun x hx2 => ?_) ho hs (s4 v).symm
        have r := cnt_bin h hb ho hk (d := d) hA hB h36 hlo
        rw [hx2, e28]
        show rR n _ A1 G T (up3 (up3 B1 39 0 (S 5 0 1).toNatClampNeg (up3 (up3 (up3 S 15 (S 5 0 1).toNatClampNeg 4 d) 15 (S 5 0 1).toNatClampNeg 5 1) 15 (S 5 0 1).toNatClampNeg 3 v 15 (S 5 0 1).toNatClampNeg 4)) 40 0 (S 5 0 1).toNatClampNeg 1)
        rw [s4 v]
        exact r
      by_cases d1 : 0 ≤ d
      · rw [if_pos d1, if_pos d1]
        by_cases d2 : d ≤ 0
        · rw [if_pos d2, if_pos d2]
          have r := fin A B (S 15 (S 5 0 1).toNatClampNeg 3) fA_r fB_r q2 hlot
          rw [same] at r
          exact r
        · rw [if_neg d2, if_neg d2, e28, q2]
          have d3 : 0 < d.toInt := by simp only [Int32.lt_iff_toInt_lt, Int32.le_iff_toInt_le, ← Int32.toInt_inj, il0, il1, il2, il3, il4, il5, il6, il15, il16, il31, il32, il40, il60, il63, il64, il120, il290, il300, il1000, il10000, il100000, ln1, ln2, ln3, ln4, ln5, ln6, ln7, ln8, ln9, ln10] at d2; omega
          by_cases d4 : S 15 (S 5 0 1).toNatClampNeg 3 = 0
          · rw [if_pos d4, if_pos d4]
            have hb0 : 0 ≤ bk.toInt := b4.1
            obtain ⟨A1, B1, v, r1, r2, r3, r4, r5, r6⟩ := add_v (S := up3 (up3 S 15 (S 5 0 1).toNatClampNeg 4 d) 15 (S 5 0 1).toNatClampNeg 5 1) (T := T) (G := G) (G1 := G1) (x := S 5 0 1) (A := A) (B := B) (am := d) (ex := S 0 0 8) q2 hlot (show (S 15 (S 5 0 1).toNatClampNeg 3).toInt < 6 by rw [d4]; decide) ⟨d3, by omega⟩
            rw [h.1.1, r1, r2]
            have r := fin A1 B1 v r3 r4 r5 r6
            rw [e28] at r
            exact r
          · rw [if_neg d4, if_neg d4]
            obtain ⟨⟨l0, l6⟩, lU, lE⟩ := hlot
            have hl0 : 0 < l := by
              rcases Nat.eq_zero_or_pos l with z | z
              · exact absurd (Int32.toInt_inj.mp (by rw [hl, z, il0]; rfl)) d4
              · exact z
            have e1 := sub1_i (x := S 15 (S 5 0 1).toNatClampNeg 3) (by omega)
            have ec1 : (S 15 (S 5 0 1).toNatClampNeg 3 - 1).toNatClampNeg = l - 1 := by
              have := cl_i (x := S 15 (S 5 0 1).toNatClampNeg 3 - 1) (by rw [e1]; omega)
              rw [e1] at this
              omega
            have hnl : S 15 (S 5 0 1).toNatClampNeg 3 = nI l := Int32.toInt_inj.mp (by rw [hl, nI_toInt (by omega)])
            have ec2 : (6 * S 5 0 1 + S 15 (S 5 0 1).toNatClampNeg 3 - 1).toNatClampNeg = 6 * (S 5 0 1).toNatClampNeg + (l - 1) := by
              rw [hnl]
              rw [e28] at hx
              exact ix6m hx.1 (by omega) (by omega) hl0
            rw [ec1, ec2]
            have qU := lU (l - 1) (by omega)
            have s1 := sm_add (U := A 17 (S 5 0 1).toNatClampNeg) (l - 1) 1 0
            rw [show l - 1 + 1 = l by omega, Nat.zero_add] at s1
            have s2 : sm (A 17 (S 5 0 1).toNatClampNeg) (l - 1) 1 = (A 17 (S 5 0 1).toNatClampNeg (l - 1)).toInt := by unfold sm sm; omega
            have s3 := sm_b (U := A 17 (S 5 0 1).toNatClampNeg) (l := (l : Int)) (fun k hk => (lU k (by omega)).2.2) (l - 1) 0 (by omega)
            have s5 : (A 17 (S 5 0 1).toNatClampNeg (l - 1)).toInt + d.toInt ≤ 10000 := by omega
            have s6 := qU.2.2
            have ead := add_i (x := A 17 (S 5 0 1).toNatClampNeg (l - 1)) (y := d) (by omega) (by omega)
            have q37 : B 37 0 (6 * (S 5 0 1).toNatClampNeg + (l - 1)) = A 17 (S 5 0 1).toNatClampNeg (l - 1) := qU.1
            rw [q37]
            obtain ⟨nv, hnv⟩ : ∃ v, A 17 (S 5 0 1).toNatClampNeg (l - 1) + d = v := ⟨_, rfl⟩
            rw [hnv] at ead ⊢
            have r := fin (up3 A 17 (S 5 0 1).toNatClampNeg (l - 1) nv) (up3 B 37 0 (6 * (S 5 0 1).toNatClampNeg + (l - 1)) nv) (S 15 (S 5 0 1).toNatClampNeg 3) (fA_17 fA_r) (fB_37 (by omega) fB_r) q2 (by
              refine ⟨⟨l0, l6⟩, fun k hk => ?_, lE⟩
              have v37 : up3 B 37 0 (6 * (S 5 0 1).toNatClampNeg + (l - 1)) nv 37 0 (6 * (S 5 0 1).toNatClampNeg + k) = if k = l - 1 then nv else B 37 0 (6 * (S 5 0 1).toNatClampNeg + k) := up3_6
              have v17 : up3 A 17 (S 5 0 1).toNatClampNeg (l - 1) nv 17 (S 5 0 1).toNatClampNeg k = if k = l - 1 then nv else A 17 (S 5 0 1).toNatClampNeg k := up3_i
              have qk := lU k hk
              show up3 B 37 0 (6 * (S 5 0 1).toNatClampNeg + (l - 1)) nv 37 0 (6 * (S 5 0 1).toNatClampNeg + k) = up3 A 17 (S 5 0 1).toNatClampNeg (l - 1) nv 17 (S 5 0 1).toNatClampNeg k ∧ B 38 0 (6 * (S 5 0 1).toNatClampNeg + k) = A 16 (S 5 0 1).toNatClampNeg k ∧ 0 < (up3 A 17 (S 5 0 1).toNatClampNeg (l - 1) nv 17 (S 5 0 1).toNatClampNeg k).toInt ∧ (up3 A 17 (S 5 0 1).toNatClampNeg (l - 1) nv 17 (S 5 0 1).toNatClampNeg k).toInt ≤ 10000
              rw [v37, v17]
              by_cases z : k = l - 1
              · rw [if_pos z, if_pos z]
                exact ⟨rfl, qk.2.1, by omega, by omega⟩
              · rw [if_neg z, if_neg z]
                exact qk)
            rw [same, e28] at r
            exact r
      · rw [if_neg d1, if_neg d1]
        have d1' : d.toInt < 0 := by simp only [Int32.lt_iff_toInt_lt, Int32.le_iff_toInt_le, ← Int32.toInt_inj, il0, il1, il2, il3, il4, il5, il6, il15, il16, il31, il32, il40, il60, il63, il64, il120, il290, il300, il1000, il10000, il100000, ln1, ln2, ln3, ln4, ln5, ln6, ln7, ln8, ln9, ln10] at d1; omega
        have en : (-d).toInt = -d.toInt := neg_i (by omega)
        obtain ⟨A1, B1, v, r1, r2, r3, r4, r5, r6⟩ := take_v (S := up3 (up3 S 15 (S 5 0 1).toNatClampNeg 4 d) 15 (S 5 0 1).toNatClampNeg 5 1) (T := T) (G := G) (G1 := G1) (x := S 5 0 1) (A := A) (B := B) (z0 := -d) (x3 := 1) (p := 0) q2 hlot (by omega) hlot.1.1 (fun k _ => ⟨fun z => absurd z.1 n10, fun z => by omega⟩)
        rw [e28, show (0 : Int32) = nI 0 from rfl, r1, r2]
        have r := fin A1 B1 v r3 r4 r5 r6
        rw [e28] at r
        exact r
    · rw [if_neg c3, if_pos (show S 6 0 1 = 300 by simp only [Int32.lt_iff_toInt_lt, Int32.le_iff_toInt_le, ← Int32.toInt_inj, il0, il1, il2, il3, il4, il5, il6, il15, il16, il31, il32, il40, il60, il63, il64, il120, il290, il300, il1000, il10000, il100000, ln1, ln2, ln3, ln4, ln5, ln6, ln7, ln8, ln9, ln10] at c3 ⊢; omega)]; exact cg_no h _
  · have hin : V7_in T B G1 x1 0 10000 = 0 := in0.mpr (Or.inr (by simp only [Int32.lt_iff_toInt_lt, Int32.le_iff_toInt_le, ← Int32.toInt_inj, il0, il1, il2, il3, il4, il5, il6, il15, il16, il31, il32, il40, il60, il63, il64, il120, il290, il300, il1000, il10000, il100000, ln1, ln2, ln3, ln4, ln5, ln6, ln7, ln8, ln9, ln10] at c2 ⊢; omega))
    simp only [if_neg c1, if_neg c2, if_pos hin, ite_self]; exact cg_no h _
end BIN
