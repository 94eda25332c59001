/-! the calls that change users, items, orders, the time, the copies -/
theorem up3_c {S : sS} {f n k f1 n1 k1 : Nat} {v w : Int32} (h : ¬ (f = f1 ∧ k = k1 ∧ n = n1)) : up3 (up3 S f n k v) f1 n1 k1 w = up3 (up3 S f1 n1 k1 w) f n k v := by
  funext a b c
  unfold up3
  by_cases c1 : a = f1 ∧ c = k1 ∧ b = n1
  · rw [if_pos c1]
    by_cases c2 : a = f ∧ c = k ∧ b = n
    · exact absurd ⟨c2.1.symm.trans c1.1, c2.2.1.symm.trans c1.2.1, c2.2.2.symm.trans c1.2.2⟩ h
    · rw [if_neg c2, if_pos c1]
  · simp only [if_neg c1]
theorem up3_o {S : sS} {f n k : Nat} {v w : Int32} : up3 (up3 S f n k v) f n k w = up3 S f n k w := by
  funext a b c
  unfold up3
  by_cases c1 : a = f ∧ c = k ∧ b = n
  · rw [if_pos c1, if_pos c1]
  · rw [if_neg c1, if_neg c1, if_neg c1]
theorem wat_m {T : sS} (h : T 20 0 8 = -1) : wat T = -1 := by
  unfold wat
  by_cases c1 : T 20 0 6 < 0
  · rw [if_pos c1]
  · rw [if_neg c1, h, if_pos (by decide)]
theorem wat_w {T : sS} (h : T 20 0 6 = -1) : wat T = -1 := by
  unfold wat
  rw [h, if_pos (by decide)]
section SIMPLE
variable {n : Nat} {S A : sS} {G : sG} {T B : sS} {G1 : sG}
theorem rR.acc (h : rR n S A G T B) : rR n (up3 S 0 0 10 (S 0 0 8)) A G (up3 T 20 0 7 (T 20 0 0)) B := by
  obtain ⟨⟨t1, t2, t3, t4, t5, t6, t7⟩, hr⟩ := h
  exact ⟨⟨t1, t2, t3, t1, ⟨t2.1, Int.le_refl _⟩, t6, t7⟩, hr⟩
theorem rU1_cg {S1 B1 : sS} {w : Nat} (eS : ∀ k, S1 12 w k = S 12 w k) (e25 : B1 25 0 w = B 25 0 w) (e26 : B1 26 0 w = B 26 0 w) (e22 : B1 22 0 w = B 22 0 w) (e23 : B1 23 0 w = B 23 0 w) (e24 : B1 24 0 w = B 24 0 w) (h : rU1 G S B w) : rU1 G S1 B1 w := by
  unfold rU1 at h ⊢
  rw [e22, e23, e24, e25, e26, eS, eS, eS, eS]
  exact h
theorem rR.usr2 (h : rR n S A G T B) {u : Nat} (hu : u < 16) (hg : ¬ G 1 u = none) {v : Int32} (hv : 0 ≤ v.toInt ∧ v.toInt ≤ 2) : rR n (up3 S 12 u 2 v) A G T (up3 B 25 0 u v) := by
  refine ⟨h.1, ⟨h.2.1.1, fun w hw => ?_⟩, h.2.2⟩
  have q0 := h.2.1.2 w hw
  by_cases e : w = u
  · subst e
    obtain ⟨q1, q2, q3, q4, q5, q6, q7⟩ := q0.2 hg
    refine ⟨fun z => absurd z hg, fun _ => ⟨q1, q2, q3, ?_, q5, q6, ?_⟩⟩
    · exact up3_s.trans up3_s.symm
    · rw [show up3 S 12 w 2 v 12 w 2 = v from up3_s]; exact hv
  · exact rU1_cg (S := S) (B := B) (fun k => up3_n (fun z => e z.2.2)) (up3_n (fun z => e z.2.1)) rfl rfl rfl rfl q0
theorem rR.usr3 (h : rR n S A G T B) {u : Nat} (hu : u < 16) (hg : ¬ G 1 u = none) {v : Int32} : rR n (up3 S 12 u 3 v) A G T (up3 B 26 0 u v) := by
  refine ⟨h.1, ⟨h.2.1.1, fun w hw => ?_⟩, h.2.2⟩
  have q0 := h.2.1.2 w hw
  by_cases e : w = u
  · subst e
    obtain ⟨q1, q2, q3, q4, q5, q6, q7⟩ := q0.2 hg
    refine ⟨fun z => absurd z hg, fun _ => ⟨q1, q2, q3, q4, ?_, q6, q7⟩⟩
    exact up3_s.trans up3_s.symm
  · exact rU1_cg (S := S) (B := B) (fun k => up3_n (fun z => e z.2.2)) rfl (up3_n (fun z => e z.2.1)) rfl rfl rfl q0
/-- a code is tried -/
theorem try_v (h : rR n S A G T B) {x1 : Int32} (x2 : Int32) (hx : 0 ≤ x1.toInt ∧ x1.toInt < 16 ∧ ¬ G 1 x1.toNatClampNeg = none) : ((O6_tryCode S A G x1.toNatClampNeg x2).1 = (O7_tryCode T B G1 x1 x2).1 ∧ ¬ (O7_tryCode T B G1 x1 x2).1 = 0 ∧ ¬ 0 ≤ (O7_tryCode T B G1 x1 x2).1 ∧ rR n (O6_tryCode S A G x1.toNatClampNeg x2).2.1 (O6_tryCode S A G x1.toNatClampNeg x2).2.2 G (O7_tryCode T B G1 x1 x2).2.1 (O7_tryCode T B G1 x1 x2).2.2) ∨ (O6_tryCode S A G x1.toNatClampNeg x2 = (0, up3 S 12 x1.toNatClampNeg 2 0, A) ∧ O7_tryCode T B G1 x1 x2 = (0, T, up3 B 25 0 x1.toNatClampNeg 0) ∧ rR n (up3 S 12 x1.toNatClampNeg 2 0) A G T (up3 B 25 0 x1.toNatClampNeg 0)) := by
  have hu := cl_lt hx.1 hx.2.1
  obtain ⟨q1, q2, q3, q4, q5, q6, q7⟩ := (h.2.1.2 _ hu).2 hx.2.2
  unfold O6_tryCode O7_tryCode
  have hs : up3 B 25 0 x1.toNatClampNeg (B 25 0 x1.toNatClampNeg + 1) 25 0 x1.toNatClampNeg = B 25 0 x1.toNatClampNeg + 1 := up3_s
  rw [hs, q3, q4, q5, h.1.1]
  by_cases c1 : S 12 x1.toNatClampNeg 3 ≤ S 0 0 8
  · rw [if_pos c1, if_pos (lock_0.mpr c1)]
    by_cases c2 : x2 = S 12 x1.toNatClampNeg 1
    · rw [if_pos c2, if_pos c2.symm]
      exact Or.inr ⟨rfl, rfl, h.usr2 hu hx.2.2 (by decide)⟩
    · rw [if_neg c2, if_neg (show ¬ S 12 x1.toNatClampNeg 1 = x2 from fun z => c2 z.symm)]
      left
      have ea := add_i (x := S 12 x1.toNatClampNeg 2) (y := 1) (by rw [il1]; omega) (by rw [il1]; omega)
      rw [il1] at ea
      by_cases c3 : S 12 x1.toNatClampNeg 2 + 1 = 3
      · have c4 : ¬ S 12 x1.toNatClampNeg 2 + 1 < 3 := by rw [c3]; decide
        rw [if_pos c3, if_neg c4]
        refine ⟨rfl, (by decide : ¬ (-9 : Int32) = 0), (by decide : ¬ (0 : Int32) ≤ -9), ?_⟩
        rw [up3_o, up3_o]
        exact (h.usr2 hu hx.2.2 (v := 0) (by decide)).usr3 hu hx.2.2
      · have c4 : S 12 x1.toNatClampNeg 2 + 1 < 3 := by simp only [Int32.lt_iff_toInt_lt, Int32.le_iff_toInt_le, ← Int32.toInt_inj, il0, il1, il2, il3, il4, il5, il6, il15, il16, il31, il32, il40, il60, il63, il64, il120, il290, il300, il1000, il10000, il100000, ln1, ln2, ln3, ln4, ln5, ln6, ln7, ln8, ln9, ln10] at c3 ⊢; omega
        rw [if_neg c3, if_pos c4]
        exact ⟨rfl, (by decide : ¬ (-9 : Int32) = 0), (by decide : ¬ (0 : Int32) ≤ -9), h.usr2 hu hx.2.2 (by simp only [Int32.lt_iff_toInt_lt, Int32.le_iff_toInt_le, ← Int32.toInt_inj, il0, il1, il2, il3, il4, il5, il6, il15, il16, il31, il32, il40, il60, il63, il64, il120, il290, il300, il1000, il10000, il100000, ln1, ln2, ln3, ln4, ln5, ln6, ln7, ln8, ln9, ln10] at c4; omega)⟩
  · rw [if_neg c1, if_neg (fun z => c1 (lock_0.mp z))]
    exact Or.inl ⟨rfl, (by decide : ¬ (-10 : Int32) = 0), (by decide : ¬ (0 : Int32) ≤ -10), h⟩
theorem co_login (h : rR n S A G T B) (x1 x2 : Int32) : cg n G (O6_login S A G x1 x2) (O7_login T B G1 x1 x2) := by
  have hu := isUser_eq (G1 := G1) h x1
  unfold O6_login O7_login
  rw [← hu]
  by_cases c1 : V6_isUser S A G x1 = 0
  · rw [if_pos c1, if_pos c1]
    exact cg_no h _
  rw [if_neg c1, if_neg c1]
  have hx := isUser_r c1
  by_cases a : S 5 0 0 = -1
  · rw [if_pos (opn.mpr a), if_pos ((act_lt h).mpr a)]
    rcases try_v (G1 := G1) h x2 hx with ⟨e1, e2, e3, e4⟩ | ⟨e1, e2, e3⟩
    · unfold O6_login_34 O7_login_30
      rw [e1, if_neg e2, if_neg e3]
      exact ⟨rfl, e4.mono⟩
    · rw [e1, e2]
      obtain ⟨⟨t1, t2, t3, t4, t5, t6, t7⟩, ⟨u1, u2⟩, hr⟩ := e3
      refine ⟨rfl, ⟨⟨t1, ⟨t2.1, ?_⟩, rfl, t1, ⟨t2.1, Int.le_refl _⟩, t6, ?_⟩, ⟨Or.inr hx, u2⟩, hr⟩⟩
      · exact Int.le_trans t2.2 (by omega)
      · exact (wat_m rfl).symm
  · rw [if_neg (fun z => a (opn.mp z)), if_neg (fun z => a ((act_lt h).mp z))]
    exact cg_no h _
theorem co_logout (h : rR n S A G T B) : cg n G (O6_logout S A G) (O7_logout T B G1) := by
  unfold O6_logout O7_logout
  by_cases w : S 0 0 9 = -1
  · rw [if_pos w, if_pos ((who_lt h).mpr w)]; exact cg_no h _
  rw [if_neg w, if_neg (fun z => w ((who_lt h).mp z))]
  by_cases a : S 5 0 0 = -1
  · rw [if_pos (opn.mpr a), if_pos ((act_lt h).mpr a)]
    obtain ⟨⟨t1, t2, t3, t4, t5, t6, t7⟩, ⟨u1, u2⟩, hr⟩ := h
    refine ⟨t3.symm, ⟨⟨t1, ⟨t2.1, ?_⟩, rfl, t4, t5, t6, ?_⟩, ⟨Or.inl rfl, u2⟩, hr⟩⟩
    · exact Int.le_trans t2.2 (by omega)
    · exact (wat_m rfl).symm
  · rw [if_neg (fun z => a (opn.mp z)), if_neg (fun z => a ((act_lt h).mp z))]
    exact cg_no h _
theorem co_witness (h : rR n S A G T B) (hn : n < 512) (x1 x2 : Int32) : cg n G (O6_witness S A G x1 x2) (O7_witness T B G1 x1 x2) := by
  have hu := isUser_eq (G1 := G1) h x1
  unfold O6_witness O7_witness
  rw [← hu]
  by_cases c1 : V6_isUser S A G x1 = 0
  · rw [if_pos c1, if_pos c1]
    exact cg_no h _
  rw [if_neg c1, if_neg c1, h.1.2.2.1]
  have hx := isUser_r c1
  by_cases c2 : x1 = S 0 0 9
  · rw [if_pos c2, if_pos c2]
    exact cg_no h _
  rw [if_neg c2, if_neg c2]
  by_cases w : S 0 0 9 = -1
  · rw [if_pos w, if_neg (fun z => by rw [w] at z; exact absurd z (by decide))]; exact cg_no h _
  have w2 : 0 ≤ S 0 0 9 := by have := (who_ge h).mpr w; rw [h.1.2.2.1] at this; exact this
  rw [if_neg w, if_pos w2]
  rcases try_v (G1 := G1) h x2 hx with ⟨e1, e2, e3, e4⟩ | ⟨e1, e2, e3⟩
  · unfold O6_witness_40 O7_witness_38
    rw [e1, if_neg e2, if_neg e3]
    exact ⟨rfl, e4.mono⟩
  · rw [e1, e2]
    obtain ⟨⟨t1, t2, t3, t4, t5, t6, t7⟩, ⟨u1, u2⟩, hr⟩ := e3
    have t1' : T 20 0 0 = S 0 0 8 := t1
    have t2' : 0 ≤ (S 0 0 8).toInt ∧ (S 0 0 8).toInt ≤ 1000 * n := t2
    have t3' : T 20 0 6 = S 0 0 9 := t3
    refine ⟨?_, ⟨⟨t1, ⟨t2.1, ?_⟩, t3, t1, ⟨t2.1, Int.le_refl _⟩, ?_, ?_⟩, ⟨u1, u2⟩, hr⟩⟩
    · show S 0 0 8 + 120 = T 20 0 0 + 120
      rw [t1']
    · exact Int.le_trans t2.2 (by omega)
    · show T 20 0 0 + 120 = S 0 0 8 + 120
      rw [t1']
    · show x1 = if T 20 0 6 < 0 then -1 else if x1 < 0 then -1 else if T 20 0 0 + 120 ≤ T 20 0 0 then -1 else x1
      have ea := add_i (x := S 0 0 8) (y := 120) (by rw [il120]; omega) (by rw [il120]; omega)
      rw [il120] at ea
      rw [t1', t3', if_neg (show ¬ S 0 0 9 < 0 by simp only [Int32.lt_iff_toInt_lt, Int32.le_iff_toInt_le, ← Int32.toInt_inj, il0, il1, il2, il3, il4, il5, il6, il15, il16, il31, il32, il40, il60, il63, il64, il120, il290, il300, il1000, il10000, il100000, ln1, ln2, ln3, ln4, ln5, ln6, ln7, ln8, ln9, ln10] at w2 ⊢; omega), if_neg (show ¬ x1 < 0 by simp only [Int32.lt_iff_toInt_lt, Int32.le_iff_toInt_le, ← Int32.toInt_inj, il0, il1, il2, il3, il4, il5, il6, il15, il16, il31, il32, il40, il60, il63, il64, il120, il290, il300, il1000, il10000, il100000, ln1, ln2, ln3, ln4, ln5, ln6, ln7, ln8, ln9, ln10]; omega), if_neg (show ¬ S 0 0 8 + 120 ≤ S 0 0 8 by simp only [Int32.lt_iff_toInt_lt, Int32.le_iff_toInt_le, ← Int32.toInt_inj, il0, il1, il2, il3, il4, il5, il6, il15, il16, il31, il32, il40, il60, il63, il64, il120, il290, il300, il1000, il10000, il100000, ln1, ln2, ln3, ln4, ln5, ln6, ln7, ln8, ln9, ln10]; omega)]
theorem co_tick (h : rR n S A G T B) (hn : n < 512) (x1 : Int32) : cg n G (O6_tick S A G x1) (O7_tick T B G1 x1) := by
  have hw := who_lt h
  have ha := act_ge h
  have hh := h
  obtain ⟨⟨t1, t2, t3, t4, t5, t6, t7⟩, ⟨u1, u2⟩, hr⟩ := h
  unfold O6_tick O7_tick
  rw [t1, t4]
  by_cases c1 : x1 < 1
  · rw [if_pos c1, if_pos (in0.mpr (Or.inl c1))]
    exact cg_no hh _
  by_cases c2 : x1 ≤ 1000
  · rw [if_neg c1, if_pos c2, if_neg (fun z => (in0.mp z).elim c1 (fun z => by simp only [Int32.lt_iff_toInt_lt, Int32.le_iff_toInt_le, ← Int32.toInt_inj, il0, il1, il2, il3, il4, il5, il6, il15, il16, il31, il32, il40, il60, il63, il64, il120, il290, il300, il1000, il10000, il100000, ln1, ln2, ln3, ln4, ln5, ln6, ln7, ln8, ln9, ln10] at z c2; omega))]
    have hx : 1 ≤ x1.toInt ∧ x1.toInt ≤ 1000 := by simp only [Int32.lt_iff_toInt_lt, Int32.le_iff_toInt_le, ← Int32.toInt_inj, il0, il1, il2, il3, il4, il5, il6, il15, il16, il31, il32, il40, il60, il63, il64, il120, il290, il300, il1000, il10000, il100000, ln1, ln2, ln3, ln4, ln5, ln6, ln7, ln8, ln9, ln10] at c1 c2; omega
    have ea := add_i (x := S 0 0 8) (y := x1) (by omega) (by omega)
    have tn : 0 ≤ (S 0 0 8 + x1).toInt ∧ (S 0 0 8 + x1).toInt ≤ 1000 * ((n + 1 : Nat) : Int) := by omega
    have tl : (S 0 0 10).toInt ≤ (S 0 0 8 + x1).toInt := by omega
    have hop : ∀ S2 : sS, S2 5 0 0 = S 5 0 0 → (V4_isOpen S2 A G = 0 ↔ S 5 0 0 = -1) := fun S2 q => by rw [opn, q]
    -- no one goes out
    have stay1 : S 0 0 8 + x1 < S 0 0 12 → rR (n + 1) (up3 S 0 0 8 (S 0 0 8 + x1)) A G (up3 T 20 0 0 (S 0 0 8 + x1)) B := fun d => by
      refine ⟨⟨rfl, tn, t3, t4, ⟨t5.1, tl⟩, t6, ?_⟩, ⟨u1, u2⟩, hr⟩
      show S 0 0 11 = if T 20 0 6 < 0 then -1 else if T 20 0 8 < 0 then -1 else if T 20 0 9 ≤ S 0 0 8 + x1 then -1 else T 20 0 8
      rw [t7]
      unfold wat
      rw [t6, t1, if_neg (show ¬ S 0 0 12 ≤ S 0 0 8 + x1 by simp only [Int32.lt_iff_toInt_lt, Int32.le_iff_toInt_le, ← Int32.toInt_inj, il0, il1, il2, il3, il4, il5, il6, il15, il16, il31, il32, il40, il60, il63, il64, il120, il290, il300, il1000, il10000, il100000, ln1, ln2, ln3, ln4, ln5, ln6, ln7, ln8, ln9, ln10] at d ⊢; omega), if_neg (show ¬ S 0 0 12 ≤ S 0 0 8 by simp only [Int32.lt_iff_toInt_lt, Int32.le_iff_toInt_le, ← Int32.toInt_inj, il0, il1, il2, il3, il4, il5, il6, il15, il16, il31, il32, il40, il60, il63, il64, il120, il290, il300, il1000, il10000, il100000, ln1, ln2, ln3, ln4, ln5, ln6, ln7, ln8, ln9, ln10] at d ⊢; omega)]
    have stay2 : ¬ S 0 0 8 + x1 < S 0 0 12 → rR (n + 1) (up3 (up3 S 0 0 8 (S 0 0 8 + x1)) 0 0 11 (-1)) A G (up3 T 20 0 0 (S 0 0 8 + x1)) B := fun d => by
      refine ⟨⟨rfl, tn, t3, t4, ⟨t5.1, tl⟩, t6, ?_⟩, ⟨u1, u2⟩, hr⟩
      show -1 = if T 20 0 6 < 0 then -1 else if T 20 0 8 < 0 then -1 else if T 20 0 9 ≤ S 0 0 8 + x1 then -1 else T 20 0 8
      rw [t6, if_pos (show S 0 0 12 ≤ S 0 0 8 + x1 by simp only [Int32.lt_iff_toInt_lt, Int32.le_iff_toInt_le, ← Int32.toInt_inj, il0, il1, il2, il3, il4, il5, il6, il15, il16, il31, il32, il40, il60, il63, il64, il120, il290, il300, il1000, il10000, il100000, ln1, ln2, ln3, ln4, ln5, ln6, ln7, ln8, ln9, ln10] at d ⊢; omega)]
      by_cases q1 : T 20 0 6 < 0
      · rw [if_pos q1]
      · rw [if_neg q1]
        by_cases q2 : T 20 0 8 < 0
        · rw [if_pos q2]
        · rw [if_neg q2]
    have goes : ∀ S2 : sS, (∀ f n2 k, ¬ (f = 0 ∧ n2 = 0 ∧ k = 11) → S2 f n2 k = up3 S 0 0 8 (S 0 0 8 + x1) f n2 k) → ∀ T2 : sS, T2 = up3 (up3 (up3 T 20 0 0 (S 0 0 8 + x1)) 20 0 6 (-1)) 20 0 8 (-1) ∨ (S 0 0 9 = -1 ∧ T2 = up3 T 20 0 0 (S 0 0 8 + x1)) → rR (n + 1) (up3 (up3 S2 0 0 9 (-1)) 0 0 11 (-1)) A G T2 B := fun S2 q T2 hT => by
      have qe : up3 (up3 S2 0 0 9 (-1)) 0 0 11 (-1) = up3 (up3 (up3 S 0 0 8 (S 0 0 8 + x1)) 0 0 9 (-1)) 0 0 11 (-1) := by
        funext f n2 k
        unfold up3
        by_cases z1 : f = 0 ∧ k = 11 ∧ n2 = 0
        · rw [if_pos z1, if_pos z1]
        · rw [if_neg z1, if_neg z1]
          by_cases z2 : f = 0 ∧ k = 9 ∧ n2 = 0
          · rw [if_pos z2, if_pos z2]
          · rw [if_neg z2, if_neg z2]
            exact q f n2 k (fun z3 => z1 ⟨z3.1, z3.2.2, z3.2.1⟩)
      rw [qe]
      rcases hT with hT | ⟨w, hT⟩
      · rw [hT]
        exact ⟨⟨rfl, tn, rfl, t4, ⟨t5.1, tl⟩, t6, (wat_m rfl).symm⟩, ⟨Or.inl rfl, u2⟩, hr⟩
      · rw [hT]
        have w6 : T 20 0 6 = -1 := t3.trans w
        exact ⟨⟨rfl, tn, w6, t4, ⟨t5.1, tl⟩, t6, (wat_w (T := up3 T 20 0 0 (S 0 0 8 + x1)) w6).symm⟩, ⟨Or.inl rfl, u2⟩, hr⟩
    -- what the reference does
    have href : ∀ o6 : Int32 × sS × sS, o6.1 = S 0 0 8 + x1 → o6.2.2 = A → ((¬ S 5 0 0 = -1 ∨ S 0 0 8 + x1 - S 0 0 10 < 120) → rR (n + 1) o6.2.1 A G (up3 T 20 0 0 (S 0 0 8 + x1)) B) → ((S 5 0 0 = -1 ∧ ¬ S 0 0 8 + x1 - S 0 0 10 < 120) → S 0 0 9 = -1 → rR (n + 1) o6.2.1 A G (up3 T 20 0 0 (S 0 0 8 + x1)) B) → ((S 5 0 0 = -1 ∧ ¬ S 0 0 8 + x1 - S 0 0 10 < 120) → rR (n + 1) o6.2.1 A G (up3 (up3 (up3 T 20 0 0 (S 0 0 8 + x1)) 20 0 6 (-1)) 20 0 8 (-1)) B) → cg n G o6 (if T 20 0 6 < 0 then ((S 0 0 8) + x1, (up3 T 20 0 0 ((S 0 0 8) + x1)), B) else if 0 ≤ T 20 0 27 then ((S 0 0 8) + x1, (up3 T 20 0 0 ((S 0 0 8) + x1)), B) else if ((S 0 0 8) + x1) - (S 0 0 10) < 120 then ((S 0 0 8) + x1, (up3 T 20 0 0 ((S 0 0 8) + x1)), B) else ((S 0 0 8) + x1, (up3 (up3 (up3 T 20 0 0 ((S 0 0 8) + x1)) 20 0 6 (-1)) 20 0 8 (-1)), B)) := fun o6 p1 p2 r1 r2 r3 => by
      by_cases q3 : S 5 0 0 = -1 ∧ ¬ S 0 0 8 + x1 - S 0 0 10 < 120
      · by_cases q1 : T 20 0 6 < 0
        · rw [if_pos q1]
          exact ⟨p1, by rw [p2]; exact r2 q3 (hw.mp q1)⟩
        · rw [if_neg q1, if_neg (fun z => ha.mp z q3.1), if_neg q3.2]
          exact ⟨p1, by rw [p2]; exact r3 q3⟩
      · have q4 : ¬ S 5 0 0 = -1 ∨ S 0 0 8 + x1 - S 0 0 10 < 120 := by
          by_cases q5 : S 5 0 0 = -1
          · exact Or.inr (Classical.byContradiction fun z => q3 ⟨q5, z⟩)
          · exact Or.inl q5
        have q6 := r1 q4
        by_cases q1 : T 20 0 6 < 0
        · rw [if_pos q1]; exact ⟨p1, by rw [p2]; exact q6⟩
        · rw [if_neg q1]
          by_cases q2 : 0 ≤ T 20 0 27
          · rw [if_pos q2]; exact ⟨p1, by rw [p2]; exact q6⟩
          · rw [if_neg q2, if_pos (q4.resolve_left (fun z => q2 (ha.mpr z)))]; exact ⟨p1, by rw [p2]; exact q6⟩
    by_cases d : S 0 0 8 + x1 < S 0 0 12
    · rw [if_pos d]
      by_cases a : S 5 0 0 = -1
      · rw [if_pos ((hop (up3 S 0 0 8 (S 0 0 8 + x1)) rfl).mpr a)]
        by_cases f : S 0 0 8 + x1 - S 0 0 10 < 120
        · rw [if_pos f]
          exact href _ rfl rfl (fun _ => stay1 d) (fun z => absurd f z.2) (fun z => absurd f z.2)
        · rw [if_neg f]
          exact href _ rfl rfl (fun z => absurd (z.resolve_left (fun y => y a)) f) (fun _ w => goes _ (fun _ _ _ _ => rfl) _ (Or.inr ⟨w, rfl⟩)) (fun _ => goes _ (fun _ _ _ _ => rfl) _ (Or.inl rfl))
      · rw [if_neg (fun z => a ((hop (up3 S 0 0 8 (S 0 0 8 + x1)) rfl).mp z))]
        exact href _ rfl rfl (fun _ => stay1 d) (fun z => absurd z.1 a) (fun z => absurd z.1 a)
    · rw [if_neg d]
      by_cases a : S 5 0 0 = -1
      · rw [if_pos ((hop (up3 (up3 S 0 0 8 (S 0 0 8 + x1)) 0 0 11 (-1)) rfl).mpr a)]
        by_cases f : S 0 0 8 + x1 - S 0 0 10 < 120
        · rw [if_pos f]
          exact href _ rfl rfl (fun _ => stay2 d) (fun z => absurd f z.2) (fun z => absurd f z.2)
        · rw [if_neg f]
          have q : ∀ f n2 k, ¬ (f = 0 ∧ n2 = 0 ∧ k = 11) → up3 (up3 S 0 0 8 (S 0 0 8 + x1)) 0 0 11 (-1) f n2 k = up3 S 0 0 8 (S 0 0 8 + x1) f n2 k := fun f n2 k z => up3_n (fun y => z ⟨y.1, y.2.2, y.2.1⟩)
          exact href _ rfl rfl (fun z => absurd (z.resolve_left (fun y => y a)) f) (fun _ w => goes _ q _ (Or.inr ⟨w, rfl⟩)) (fun _ => goes _ q _ (Or.inl rfl))
      · rw [if_neg (fun z => a ((hop (up3 (up3 S 0 0 8 (S 0 0 8 + x1)) 0 0 11 (-1)) rfl).mp z))]
        exact href _ rfl rfl (fun _ => stay2 d) (fun z => absurd z.1 a) (fun z => absurd z.1 a)
  · rw [if_neg c1, if_neg c2, if_pos (in0.mpr (Or.inr (by simp only [Int32.lt_iff_toInt_lt, Int32.le_iff_toInt_le, ← Int32.toInt_inj, il0, il1, il2, il3, il4, il5, il6, il15, il16, il31, il32, il40, il60, il63, il64, il120, il290, il300, il1000, il10000, il100000, ln1, ln2, ln3, ln4, ln5, ln6, ln7, ln8, ln9, ln10] at c2 ⊢; omega)))]
    exact cg_no hh _
theorem co_cancel (h : rR n S A G T B) (x1 : Int32) : cg n G (O6_cancel S A G x1) (O7_cancel T B G1 x1) := by
  have ho := isOrder_eq (G1 := G1) h x1
  unfold O6_cancel O7_cancel
  rw [← ho]
  by_cases c1 : V6_isOrder S A G x1 = 0
  · rw [if_pos c1, if_pos c1]; exact cg_no h _
  rw [if_neg c1, if_neg c1]
  have hx := isOrder_r c1
  by_cases w : S 0 0 9 = -1
  · rw [if_pos w, if_neg (fun z => (who_ge h).mp z w)]; exact cg_no h _
  rw [if_neg w, if_pos ((who_ge h).mpr w)]
  by_cases r : V6_isPharmacistIn S A G = 0
  · rw [if_pos r, if_neg ((phar h w).mp r)]; exact cg_no h _
  rw [if_neg r, if_pos (Classical.byContradiction fun z => r ((phar h w).mpr z))]
  obtain ⟨s1, s2, s3, s4, s5⟩ := h.2.2.2.2.2.1
  have key : S 5 0 2 = x1 ↔ (T 20 0 27 = 0 ∧ T 20 0 29 = x1) := by
    by_cases a : S 5 0 0 = -1
    · rw [(s4 a).2, s1, a]
      refine ⟨fun z => ?_, fun z => absurd z.1 (by decide)⟩
      rw [← z] at hx
      exact absurd hx.1 (by decide)
    · obtain ⟨-, q1, -, -, -, q2, -⟩ := s5 a
      rw [q1, s1]
      by_cases b : S 5 0 0 = 0
      · exact ⟨fun z => ⟨b, z⟩, fun z => z.2⟩
      · rw [q2 b]
        refine ⟨fun z => ?_, fun z => absurd z.1 b⟩
        rw [← z] at hx
        exact absurd hx.1 (by decide)
  have o1 := oopn (G1 := G1) h hx
  have hq := ord_at h hx
  have fin : cg n G (if S 5 0 2 = x1 then ((-4 : Int32), S, A) else if V3_isOpen S A G (x1.toNatClampNeg) (S 0 0 8) = 0 then ((-6), S, A) else O6_cancel_75 (O6_accept (up3 S 14 (x1.toNatClampNeg) 4 1) A G ).1 (O6_accept (up3 S 14 (x1.toNatClampNeg) 4 1) A G ).2 G x1 (x1.toNatClampNeg)) (if T 20 0 27 = 0 ∧ T 20 0 29 = x1 then ((-4), T, B) else if V7_isOpen T B G1 x1 = 0 then ((-6), T, B) else (B 43 0 (x1.toNatClampNeg), (up3 T 20 0 7 (T 20 0 0)), (up3 B 46 0 (x1.toNatClampNeg) 1))) := by
    rw [← o1]
    by_cases k : S 5 0 2 = x1
    · rw [if_pos k, if_pos (key.mp k)]; exact cg_no h _
    rw [if_neg k, if_neg (fun z => k (key.mpr z))]
    by_cases v : V3_isOpen S A G x1.toNatClampNeg (S 0 0 8) = 0
    · rw [if_pos v, if_pos v]; exact cg_no h _
    rw [if_neg v, if_neg v]
    refine ⟨hq.2.2.2.2.2.1.symm, ?_⟩
    have h2 := h.acc.mono
    obtain ⟨g1, g2, g3, g4, ⟨o1, o2, o3, o4, o5, o6⟩, g6, g7⟩ := h2
    refine ⟨g1, g2, g3, g4, ⟨o1, o2, o3, ?_, o5, ?_⟩, g6, g7⟩
    · intro q hq2
      have e := cl_i hx.1
      have hq3 : (S 0 0 13).toInt ≤ (q : Int) := hq2
      exact (up3_n (fun z => by have := z.2.1; omega)).trans (o4 q hq2)
    · intro q hq2
      by_cases e : q = x1.toNatClampNeg
      · subst e
        obtain ⟨p1, p2, p3, p4, p5, p6, p7, p8⟩ := o6 _ hq2
        exact ⟨p1, p2, p3, p4, p5, p6, up3_s.trans up3_s.symm, p8⟩
      · have q0 := o6 q hq2
        unfold rO1 at q0 ⊢
        have eB : up3 B 46 0 x1.toNatClampNeg 1 46 0 q = B 46 0 q := up3_n (fun z => e z.2.1)
        have eS : up3 (up3 S 14 x1.toNatClampNeg 4 1) 0 0 10 (S 0 0 8) 14 q 4 = S 14 q 4 := up3_n (fun z => e z.2.2)
        exact ⟨q0.1, q0.2.1, q0.2.2.1, q0.2.2.2.1, q0.2.2.2.2.1, q0.2.2.2.2.2.1, eB.trans (q0.2.2.2.2.2.2.1.trans eS.symm), q0.2.2.2.2.2.2.2⟩
  by_cases k1 : T 20 0 27 = 0
  · rw [if_pos k1]
    by_cases k2 : T 20 0 29 = x1
    · rw [if_pos k2]
      rw [if_pos (show T 20 0 27 = 0 ∧ T 20 0 29 = x1 from ⟨k1, k2⟩)] at fin; exact fin
    · rw [if_neg k2]
      rw [if_neg (show ¬ (T 20 0 27 = 0 ∧ T 20 0 29 = x1) from fun z => k2 z.2)] at fin; exact fin
  · rw [if_neg k1]
    rw [if_neg (show ¬ (T 20 0 27 = 0 ∧ T 20 0 29 = x1) from fun z => k1 z.1)] at fin; exact fin
theorem co_shut (h : rR n S A G T B) : cg n G (O6_shut S A G) (O7_shut T B G1) := by
  unfold O6_shut O7_shut
  by_cases a : S 5 0 0 = -1
  · rw [if_pos (opn.mpr a), if_pos ((act_lt h).mpr a)]; exact cg_no h _
  rw [if_neg (fun z => a (opn.mp z)), if_neg (fun z => a ((act_lt h).mp z))]
  have h2 := h.acc.mono
  obtain ⟨s1, s2, s3, s4, s5⟩ := h.2.2.2.2.2.1
  obtain ⟨q1, q2, q3, q4, q5, q6, q7, q8, q9⟩ := s5 a
  rw [s1]
  have fin : cg n G (O6_shut_54 (O4_close S A G ).1 (O4_close S A G ).2 G ((S 0 0 8) - (S 5 0 3))) ((T 20 0 0) - (T 20 0 30), (up3 (up3 T 20 0 27 (-1)) 20 0 7 (T 20 0 0)), B) := by
    refine ⟨by rw [h.1.1, q3]; rfl, ?_⟩
    obtain ⟨g1, g2, g3, g4, g5, g6, g7, g8, g9⟩ := h2
    refine ⟨g1, g2, g3, g4, g5, ⟨rfl, (by decide : -1 ≤ (-1 : Int32).toInt ∧ (-1 : Int32).toInt ≤ 3), s3, fun _ => ⟨rfl, rfl⟩, fun z => absurd rfl z⟩, fun z => absurd rfl z, g8, g9⟩
  by_cases c : S 5 0 0 = 2
  · rw [if_pos c, if_pos c]
    by_cases d : S 5 0 5 = 0
    · rw [if_pos d, if_pos ((q9 c).mp d)]; exact cg_no h _
    · rw [if_neg d, if_neg (fun z => d ((q9 c).mpr z))]; exact fin
  · rw [if_neg c, if_neg c]; exact fin
theorem co_lose (h : rR n S A G T B) (x1 : Int32) : cg n G (O6_lose S A G x1) (O7_lose T B G1 x1) := by
  unfold O6_lose O7_lose
  by_cases c1 : x1 < 0
  · rw [if_pos c1, if_pos (in0.mpr (Or.inl c1))]; exact cg_no h _
  by_cases c2 : x1 < 2
  · rw [if_neg c1, if_pos c2, if_neg (fun z => (in0.mp z).elim c1 (fun z => by simp only [Int32.lt_iff_toInt_lt, Int32.le_iff_toInt_le, ← Int32.toInt_inj, il0, il1, il2, il3, il4, il5, il6, il15, il16, il31, il32, il40, il60, il63, il64, il120, il290, il300, il1000, il10000, il100000, ln1, ln2, ln3, ln4, ln5, ln6, ln7, ln8, ln9, ln10] at z c2; omega))]
    have h2 : rR (n + 1) S (up3 A 9 0 x1.toNatClampNeg 1) G T (up3 B 57 0 x1.toNatClampNeg 1) := by
      obtain ⟨g1, g2, g3, g4, g5, g6, g7, ⟨l1, l2, ⟨l3, l3'⟩, l4, l5⟩, g9⟩ := h.mono
      refine ⟨g1, g2, g3, g4, g5, g6, g7, ⟨l1, l2, ⟨?_, ?_⟩, ?_, l5⟩, g9⟩
      · by_cases e : 0 = x1.toNatClampNeg
        · rw [← e]; rfl
        · exact (up3_n (fun z => e z.2.1)).trans (l3.trans (up3_n (fun z => e z.2.1)).symm)
      · by_cases e : 1 = x1.toNatClampNeg
        · rw [← e]; rfl
        · exact (up3_n (fun z => e z.2.1)).trans (l3'.trans (up3_n (fun z => e z.2.1)).symm)
      · intro c hc e i hi
        refine l4 c hc ?_ i hi
        by_cases f : c = x1.toNatClampNeg
        · rw [f, show up3 A 9 0 x1.toNatClampNeg 1 9 0 x1.toNatClampNeg = 1 from up3_s] at e
          exact absurd e (by decide)
        · rw [show up3 A 9 0 x1.toNatClampNeg 1 9 0 c = A 9 0 c from up3_n (fun z => f z.2.1)] at e
          exact e
    exact ⟨whole_eq (G1 := G1) h2, h2⟩
  · rw [if_neg c1, if_neg c2, if_pos (in0.mpr (Or.inr (by simp only [Int32.lt_iff_toInt_lt, Int32.le_iff_toInt_le, ← Int32.toInt_inj, il0, il1, il2, il3, il4, il5, il6, il15, il16, il31, il32, il40, il60, il63, il64, il120, il290, il300, il1000, il10000, il100000, ln1, ln2, ln3, ln4, ln5, ln6, ln7, ln8, ln9, ln10] at c2 ⊢; omega)))]; exact cg_no h _
theorem co_repair (h : rR n S A G T B) : cg n G (O6_repair S A G) (O7_repair T B G1) := by
  have hwh := whole_eq (G1 := G1) h
  unfold O6_repair O7_repair
  rw [← hwh]
  by_cases w : V2_wholeCopies S A G = 0
  · rw [if_pos w, if_pos w]; exact cg_no h _
  rw [if_neg w, if_neg w]
  obtain ⟨g1, g2, g3, g4, g5, g6, g7, ⟨l1, l2, ⟨l3, l3'⟩, l4, l5⟩, g9⟩ := h.mono
  have e6 : ((6 * S 6 0 1).toNatClampNeg : Int) = 6 * (S 6 0 1).toInt := by
    rw [ix6z l2.1 (by omega)]
    have := cl_i l2.1
    omega
  have fin : ∀ A1 : sS, A1 9 0 0 = 0 → A1 9 0 1 = 0 → (∀ c, c < 2 → ∀ i : Nat, (i : Int) < 6 * (S 6 0 1).toInt → A1 11 c i = B 56 0 i) → (∀ b k, A1 16 b k = A 16 b k) → (∀ b k, A1 17 b k = A 17 b k) → (∀ k, A1 7 0 k = A 7 0 k) → cg n G (V2_wholeCopies S A1 G, S, A1) (2, T, up3 (up3 B 57 0 0 0) 57 0 1 0) := fun A1 a0 a1 a2 a16 a17 a7 => by
    refine ⟨?_, ?_⟩
    · show V2_wholeCopies S A1 G = 2
      unfold V2_wholeCopies
      rw [if_pos a0, if_pos a1]
    · refine ⟨g1, g2, g3, ?_, g5, g6, g7, ⟨l1, l2, ⟨a0.symm, a1.symm⟩, fun c hc _ i hi => a2 c hc i hi, l5⟩, g9.1, g9.2.1, fun i hi => (a7 i).trans (g9.2.2 i hi)⟩
      intro b hb
      have q := g4 b hb
      have e16 : A1 16 b = A 16 b := funext (a16 b)
      have e17 : A1 17 b = A 17 b := funext (a17 b)
      show rB1 G S A1 B b
      unfold rB1 at q ⊢
      rw [e16, e17]
      exact q
  unfold O6_repair_20 O2_makeWhole
  by_cases c0 : A 9 0 0 = 0
  · by_cases c1 : A 9 0 1 = 0
    · rw [if_pos c0, if_pos c1]
      exact fin A c0 c1 (fun c hc i hi => by
        rcases (show c = 0 ∨ c = 1 by omega) with e | e
        · rw [e]; exact l4 0 (by omega) c0 i hi
        · rw [e]; exact l4 1 (by omega) c1 i hi) (fun _ _ => rfl) (fun _ _ => rfl) (fun _ => rfl)
    · rw [if_pos c0, if_neg c1]
      refine fin _ c0 rfl (fun c hc i hi => ?_) (fun _ _ => rfl) (fun _ _ => rfl) (fun _ => rfl)
      have q0 := l4 0 (by omega) c0 i hi
      rcases (show c = 0 ∨ c = 1 by omega) with e | e
      · rw [e]; exact q0
      · rw [e]
        show cpA A 11 0 1 _ 11 1 i = _
        unfold cpA
        rw [if_pos ⟨rfl, rfl, by omega⟩]
        exact q0
  · have c1 : A 9 0 1 = 0 := Classical.byContradiction fun z => w (whole_0.mpr ⟨c0, z⟩)
    rw [if_neg c0, if_pos (show up3 A 9 0 0 0 9 0 1 = 0 from c1)]
    refine fin _ rfl c1 (fun c hc i hi => ?_) (fun _ _ => rfl) (fun _ _ => rfl) (fun _ => rfl)
    have q0 := l4 1 (by omega) c1 i hi
    rcases (show c = 0 ∨ c = 1 by omega) with e | e
    · rw [e]
      show cpA A 11 1 0 _ 11 0 i = _
      unfold cpA
      rw [if_pos ⟨rfl, rfl, by omega⟩]
      exact q0
    · rw [e]; exact q0
end SIMPLE
