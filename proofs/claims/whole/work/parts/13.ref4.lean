theorem tk9_lo {G : sG} {x1 x2 x3 : Int32} (hx : 0 ≤ x1.toInt ∧ x1.toInt < 64) : ∀ (r : Nat) (S A : sS) (z4 : Int32) (j5 j6 : Nat), j5 ≤ j6 → j6 ≤ 6 → (∀ i, i < 64 → 0 ≤ (A 36 0 i).toInt ∧ (A 36 0 i).toInt ≤ 6) → (O7_takeUnits_9 G x1 x2 x3 r S A z4 j5 j6).1 = S ∧ ∀ i, i < 64 → 0 ≤ ((O7_takeUnits_9 G x1 x2 x3 r S A z4 j5 j6).2 36 0 i).toInt ∧ ((O7_takeUnits_9 G x1 x2 x3 r S A z4 j5 j6).2 36 0 i).toInt ≤ 6 := by
  intro r
  induction r with
  | zero => intro S A z4 j5 j6 h1 h2 h3; exact ⟨rfl, h3⟩
  | succ r ih =>
    intro S A z4 j5 j6 h1 h2 h3
    rw [O7_takeUnits_9]
    by_cases c : A 36 0 (x1.toNatClampNeg) ≤ nI j6
    · rw [if_pos c]
      refine ⟨rfl, fun i hi => ?_⟩
      by_cases e : i = x1.toNatClampNeg
      · have a := nI_toInt (n := j5) (by omega)
        subst e
        show 0 ≤ (up3 A 36 0 (x1.toNatClampNeg) (nI j5) 36 0 (x1.toNatClampNeg)).toInt ∧ (up3 A 36 0 (x1.toNatClampNeg) (nI j5) 36 0 (x1.toNatClampNeg)).toInt ≤ 6
        rw [up3_s]; omega
      · show 0 ≤ (up3 A 36 0 (x1.toNatClampNeg) (nI j5) 36 0 i).toInt ∧ (up3 A 36 0 (x1.toNatClampNeg) (nI j5) 36 0 i).toInt ≤ 6
        rw [up3_n (fun q => e q.2.1)]; exact h3 i hi
    · rw [if_neg c]
      have a := nI_toInt (n := j6) (by omega)
      have k := nle_i c
      have hL := at_i h3 hx
      have h4 : j6 + 1 ≤ 6 := by omega
      (repeat' split) <;> first | exact ih _ _ _ _ _ (by omega) h4 h3 | exact ih _ _ _ _ _ (by omega) h4 (fun i hi => h3 i hi)
theorem takeUnits_lo {S A : sS} {G : sG} {x1 x2 x3 : Int32} (hx : 0 ≤ x1.toInt ∧ x1.toInt < 64) (h : ∀ i, i < 64 → 0 ≤ (A 36 0 i).toInt ∧ (A 36 0 i).toInt ≤ 6) : (O7_takeUnits S A G x1 x2 x3).1 = S ∧ ∀ i, i < 64 → 0 ≤ ((O7_takeUnits S A G x1 x2 x3).2 36 0 i).toInt ∧ ((O7_takeUnits S A G x1 x2 x3).2 36 0 i).toInt ≤ 6 := tk9_lo hx 7 S A x2 0 0 (Nat.le_refl _) (by omega) h
theorem pl8_lo {G : sG} {x1 x2 x3 : Int32} : ∀ (r : Nat) (S A : sS) (j4 : Nat), j4 < r → (O7_putLot_8 G x1 x2 x3 r S A j4).1 = S ∧ ∀ i, (O7_putLot_8 G x1 x2 x3 r S A j4).2 36 0 i = if i = x1.toNatClampNeg then A 36 0 i + 1 else A 36 0 i := by
  intro r
  induction r with
  | zero => intro S A j4 h; omega
  | succ r ih =>
    intro S A j4 h
    have ex : ∀ (B : sS) (i : Nat), (∀ k, B 36 0 k = A 36 0 k) → up3 B 36 0 (x1.toNatClampNeg) (A 36 0 (x1.toNatClampNeg) + 1) 36 0 i = if i = x1.toNatClampNeg then A 36 0 i + 1 else A 36 0 i := by
      intro B i hB
      by_cases e : i = x1.toNatClampNeg
      · subst e; rw [up3_s, if_pos rfl]
      · rw [up3_n (fun q => e q.2.1), if_neg e, hB]
    rw [O7_putLot_8]
    by_cases c1 : nI j4 ≤ 0
    · rw [if_pos c1]
      exact ⟨rfl, fun i => ex _ i (fun k => rfl)⟩
    · rw [if_neg c1]
      by_cases c2 : A 38 0 (6 * x1.toNatClampNeg + (j4 - 1)) ≤ x2
      · rw [if_pos c2]
        exact ⟨rfl, fun i => ex _ i (fun k => rfl)⟩
      · rw [if_neg c2]
        have hj : 0 < j4 := by
          rcases Nat.eq_zero_or_pos j4 with e | e
          · subst e; exact absurd (by decide) c1
          · exact e
        exact ih _ _ _ (by omega)
theorem putLot_lo {S A : sS} {G : sG} {x1 x2 x3 : Int32} (hx : 0 ≤ x1.toInt ∧ x1.toInt < 64) (h : ∀ i, i < 64 → 0 ≤ (A 36 0 i).toInt ∧ (A 36 0 i).toInt ≤ 6) (h5 : (A 36 0 x1.toNatClampNeg).toInt < 6) : (O7_putLot S A G x1 x2 x3).1 = S ∧ ∀ i, i < 64 → 0 ≤ ((O7_putLot S A G x1 x2 x3).2 36 0 i).toInt ∧ ((O7_putLot S A G x1 x2 x3).2 36 0 i).toInt ≤ 6 := by
  have hL := at_i h hx
  have hc := cl_i hL.1
  obtain ⟨a, q⟩ := pl8_lo (G := G) (x1 := x1) (x2 := x2) (x3 := x3) 7 S A ((A 36 0 (x1.toNatClampNeg)).toNatClampNeg) (by omega)
  refine ⟨a, fun i hi => ?_⟩
  have q := q i
  have e : (O7_putLot S A G x1 x2 x3).2 36 0 i = if i = x1.toNatClampNeg then A 36 0 i + 1 else A 36 0 i := q
  rw [e]
  split
  · rename_i ei
    subst ei
    rw [add_i (by rw [show (1 : Int32).toInt = 1 from rfl]; omega) (by rw [show (1 : Int32).toInt = 1 from rfl]; omega), show (1 : Int32).toInt = 1 from rfl]
    omega
  · exact h i hi

def O7_count_223 (S A : sS) (G : sG) (x1 : Int32) (z2 : Int32) (z3 : Int32) (z4 : Int32) (z5 : Int32) : Int32 × sS × sS := (z5, S, A)
def O7_count_188 (S A : sS) (G : sG) (x1 : Int32) (z2 : Int32) (z3 : Int32) (z4 : Int32) (z5 : Int32) : Int32 × sS × sS := O7_count_223 (O7_note (up3 S 20 0 32 1) (up3 (up3 A 39 0 (z4.toNatClampNeg) z5) 40 0 (z4.toNatClampNeg) 1) G 3 z4 z5 (S 20 0 29)).1 (O7_note (up3 S 20 0 32 1) (up3 (up3 A 39 0 (z4.toNatClampNeg) z5) 40 0 (z4.toNatClampNeg) 1) G 3 z4 z5 (S 20 0 29)).2 G x1 z2 z3 z4 z5
def O7_count_155 (S A : sS) (G : sG) (x1 : Int32) (z2 : Int32) (z3 : Int32) (z4 : Int32) (z5 : Int32) : Int32 × sS × sS := O7_count_188 S A G x1 z2 z3 z4 z5
def O7_count_125 (S A : sS) (G : sG) (x1 : Int32) (z2 : Int32) (z3 : Int32) (z4 : Int32) (z5 : Int32) : Int32 × sS × sS := O7_count_188 S A G x1 z2 z3 z4 z5
def O7_count (S A : sS) (G : sG) (x1 : Int32) : Int32 × sS × sS := if S 20 0 27 < 0 then if V7_in S A G x1 0 10000 = 0 then ((-1), S, A) else if 0 ≤ S 20 0 6 then ((-4), S, A) else ((-2), S, A) else if S 20 0 27 = 1 then if V7_in S A G x1 0 10000 = 0 then ((-1), S, A) else if 0 ≤ S 20 0 6 then ((-4), S, A) else ((-2), S, A) else if S 20 0 33 = 0 then if S 20 0 32 = 0 then if V7_in S A G x1 0 10000 = 0 then ((-1), S, A) else if 0 ≤ S 20 0 6 then if S 20 0 34 = 300 then ((-8), S, A) else if 0 ≤ x1 - (V7_bookOf S A G (S 20 0 28)) then if x1 - (V7_bookOf S A G (S 20 0 28)) ≤ 0 then O7_count_188 S A G x1 1 0 (S 20 0 28) (x1 - (V7_bookOf S A G (S 20 0 28))) else if A 36 0 ((S 20 0 28).toNatClampNeg) = 0 then O7_count_155 (O7_putLot S A G (S 20 0 28) (S 20 0 0) (x1 - (V7_bookOf S A G (S 20 0 28)))).1 (O7_putLot S A G (S 20 0 28) (S 20 0 0) (x1 - (V7_bookOf S A G (S 20 0 28)))).2 G x1 1 0 (S 20 0 28) (x1 - (V7_bookOf S A G (S 20 0 28))) else O7_count_188 S (up3 A 37 0 ((((6 * (S 20 0 28)) + (A 36 0 ((S 20 0 28).toNatClampNeg))) - 1).toNatClampNeg) ((A 37 0 ((((6 * (S 20 0 28)) + (A 36 0 ((S 20 0 28).toNatClampNeg))) - 1).toNatClampNeg)) + (x1 - (V7_bookOf S A G (S 20 0 28))))) G x1 1 0 (S 20 0 28) (x1 - (V7_bookOf S A G (S 20 0 28))) else O7_count_125 (O7_takeUnits S A G (S 20 0 28) (-(x1 - (V7_bookOf S A G (S 20 0 28)))) 1).1 (O7_takeUnits S A G (S 20 0 28) (-(x1 - (V7_bookOf S A G (S 20 0 28)))) 1).2 G x1 1 0 (S 20 0 28) (x1 - (V7_bookOf S A G (S 20 0 28))) else ((-2), S, A) else if V7_in S A G x1 0 10000 = 0 then ((-1), S, A) else if 0 ≤ S 20 0 6 then ((-4), S, A) else ((-2), S, A) else if V7_in S A G x1 0 10000 = 0 then ((-1), S, A) else if 0 ≤ S 20 0 6 then ((-4), S, A) else ((-2), S, A)
set_option maxRecDepth 100000 in
set_option maxHeartbeats 4000000 in
theorem k7_count_223 {p : Program} {l : Launch} {e : Env} {s : State} {m : MethodId} {args : Array Value} {below : List Frame} {meth : Method} {c : Code} {D : va_G} {aC : Nat → ClassId} {ad : Nat → Nat → Nat} {X : Nat → Nat → Prop} {S A : sS} {G : sG} {H : Heap} {locs : List Loc} (C0 : s_C p s m args meth c b7_count 6 R7 (some .int) D aC) (hB : s_B D aC ad X (s_N ad X) S A G s.heap H locs) (hX : xR X) (x1 : Int32) (z2 : Int32) (z3 : Int32) (z4 : Int32) (z5 : Int32)  {ls : Array Slot} (hl : lv_has ls 6 [(0, .ref (ad 20 0)), (1, .int x1), (2, .int z2), (3, .int z3), (4, .int z4), (5, .int z5)]) {o : Int32 × sS × sS} (hO : O7_count_223 S A G x1 z2 z3 z4 z5 = o) : W p l e (rmk 1) s m args below meth c H locs 0 0 (MQ below (s_Qi D aC ad X G o) args s 0 0 (s_N ad X)) (F0 m 223 ls []) := by
  obtain ⟨hx, hb, hml, hown, hw, hK, hr, hlocks⟩ := id C0
  unfold O7_count_223 at hO
  refine lv_iload hx hb d7_count_223 (lv_at hl 5 rfl) ?_
  exact se_i C0 hB (hO) d7_count_225
set_option maxRecDepth 100000 in
set_option maxHeartbeats 4000000 in
theorem k7_count_188 {p : Program} {l : Launch} {e : Env} {s : State} {m : MethodId} {args : Array Value} {below : List Frame} {meth : Method} {c : Code} {D : va_G} {aC : Nat → ClassId} {ad : Nat → Nat → Nat} {X : Nat → Nat → Prop} {S A : sS} {G : sG} {H : Heap} {locs : List Loc} (C0 : s_C p s m args meth c b7_count 6 R7 (some .int) D aC) (hB : s_B D aC ad X (s_N ad X) S A G s.heap H locs) (hX : xR X) (x1 : Int32) (z2 : Int32) (z3 : Int32) (z4 : Int32) (z5 : Int32) (hen3 : 0 ≤ (S 20 0 34).toInt ∧ (S 20 0 34).toInt < 300) (hz4 : 0 ≤ z4.toInt ∧ z4.toInt < 64) {ls : Array Slot} (hl : lv_has ls 6 [(0, .ref (ad 20 0)), (1, .int x1), (2, .int z2), (3, .int z3), (4, .int z4), (5, .int z5)]) {o : Int32 × sS × sS} (hO : O7_count_188 S A G x1 z2 z3 z4 z5 = o) : W p l e (rmk 1) s m args below meth c H locs 0 0 (MQ below (s_Qi D aC ad X G o) args s 0 0 (s_N ad X)) (F0 m 188 ls []) := by
  obtain ⟨hx, hb, hml, hown, hw, hK, hr, hlocks⟩ := id C0
  unfold O7_count_188 at hO
  refine lv_aload_n hx hb d7_count_188 rfl (lv_at hl 0 rfl) ?_
  refine sr_get (v := .ref (ad 39 0)) hx hb hw hown hK hB 18 (hX 20 (by decide)) cf_20 us7 (by decide) fl_7_57 (rfl) d7_count_189 ?_
  refine lv_iload hx hb d7_count_192 (lv_at hl 4 rfl) ?_
  refine lv_iload hx hb d7_count_194 (lv_at hl 5 rfl) ?_
  refine sr_iast hx hb hK hB (hX 39 (by decide)) rfl rfl (by (refine vp_in_iff.mpr ?_); (show 0 ≤ z4.toInt ∧ z4.toInt < ((64 : Nat) : Int));  omega) d7_count_196 (fun H locs hB => ?_)
  refine lv_aload_n hx hb d7_count_197 rfl (lv_at hl 0 rfl) ?_
  refine sr_get (v := .ref (ad 40 0)) hx hb hw hown hK hB 19 (hX 20 (by decide)) cf_20 us7 (by decide) fl_7_60 (rfl) d7_count_198 ?_
  refine lv_iload hx hb d7_count_201 (lv_at hl 4 rfl) ?_
  refine lv_iconst (v := 1) hx hb d7_count_203 (by decide) ?_
  refine sr_zast hx hb hK hB (hX 40 (by decide)) rfl rfl rfl (by (refine vp_in_iff.mpr ?_); (show 0 ≤ z4.toInt ∧ z4.toInt < ((64 : Nat) : Int));  omega) d7_count_204 (fun H locs hB => ?_)
  refine lv_aload_n hx hb d7_count_205 rfl (lv_at hl 0 rfl) ?_
  refine lv_iconst (v := 1) hx hb d7_count_206 (by decide) ?_
  refine sr_put hx hb hw hown hK hB 32 (hX 20 (by decide)) cf_20 us7 tk7 nm7 (by decide) fl_7_163 rfl rfl rfl rfl d7_count_207 (fun H locs hB => ?_)
  refine lv_aload_n hx hb d7_count_210 rfl (lv_at hl 0 rfl) ?_
  refine lv_iconst (v := 3) hx hb d7_count_211 (by decide) ?_
  refine lv_iload hx hb d7_count_212 (lv_at hl 4 rfl) ?_
  refine lv_iload hx hb d7_count_214 (lv_at hl 5 rfl) ?_
  refine lv_aload_n hx hb d7_count_216 rfl (lv_at hl 0 rfl) ?_
  refine sr_get (v := .int (S 20 0 29)) hx hb hw hown hK hB 29 (hX 20 (by decide)) cf_20 us7 (by decide) fl_7_124 (rfl) d7_count_217 ?_
  refine sr_vv C0 hB (m7_note hX 3 z4 z5 (S 20 0 29) (by  first | assumption | omega)) (hX 20 (by decide)) cf_20 ml_7_180 im_7_note se_7_note in_7 cd_7_note hd7_note ⟨⟨rfl, rfl⟩, by decide, by decide⟩ ⟨Nat.zero_le _, Nat.zero_le _⟩ hl.1 rfl (Nat.le_of_ble_eq_true rfl) d7_count_220 (fun H locs hB => ?_)
  exact k7_count_223 C0 hB hX x1 z2 z3 z4 z5  (lv_sub hl [0, 1, 2, 3, 4, 5] rfl) (hO)
set_option maxRecDepth 100000 in
set_option maxHeartbeats 4000000 in
theorem k7_count_155 {p : Program} {l : Launch} {e : Env} {s : State} {m : MethodId} {args : Array Value} {below : List Frame} {meth : Method} {c : Code} {D : va_G} {aC : Nat → ClassId} {ad : Nat → Nat → Nat} {X : Nat → Nat → Prop} {S A : sS} {G : sG} {H : Heap} {locs : List Loc} (C0 : s_C p s m args meth c b7_count 6 R7 (some .int) D aC) (hB : s_B D aC ad X (s_N ad X) S A G s.heap H locs) (hX : xR X) (x1 : Int32) (z2 : Int32) (z3 : Int32) (z4 : Int32) (z5 : Int32) (hen3 : 0 ≤ (S 20 0 34).toInt ∧ (S 20 0 34).toInt < 300) (hz4 : 0 ≤ z4.toInt ∧ z4.toInt < 64) {ls : Array Slot} (hl : lv_has ls 6 [(0, .ref (ad 20 0)), (1, .int x1), (2, .int z2), (3, .int z3), (4, .int z4), (5, .int z5)]) {o : Int32 × sS × sS} (hO : O7_count_155 S A G x1 z2 z3 z4 z5 = o) : W p l e (rmk 1) s m args below meth c H locs 0 0 (MQ below (s_Qi D aC ad X G o) args s 0 0 (s_N ad X)) (F0 m 155 ls []) := by
  obtain ⟨hx, hb, hml, hown, hw, hK, hr, hlocks⟩ := id C0
  unfold O7_count_155 at hO
  refine lv_goto (tgt := 188) hx hb d7_count_155 (by decide) ?_
  exact k7_count_188 C0 hB hX x1 z2 z3 z4 z5 (by  first | assumption | omega) (by  first | assumption | omega) (lv_sub hl [0, 1, 2, 3, 4, 5] rfl) (hO)
set_option maxRecDepth 100000 in
set_option maxHeartbeats 4000000 in
theorem k7_count_125 {p : Program} {l : Launch} {e : Env} {s : State} {m : MethodId} {args : Array Value} {below : List Frame} {meth : Method} {c : Code} {D : va_G} {aC : Nat → ClassId} {ad : Nat → Nat → Nat} {X : Nat → Nat → Prop} {S A : sS} {G : sG} {H : Heap} {locs : List Loc} (C0 : s_C p s m args meth c b7_count 6 R7 (some .int) D aC) (hB : s_B D aC ad X (s_N ad X) S A G s.heap H locs) (hX : xR X) (x1 : Int32) (z2 : Int32) (z3 : Int32) (z4 : Int32) (z5 : Int32) (hen3 : 0 ≤ (S 20 0 34).toInt ∧ (S 20 0 34).toInt < 300) (hz4 : 0 ≤ z4.toInt ∧ z4.toInt < 64) {ls : Array Slot} (hl : lv_has ls 6 [(0, .ref (ad 20 0)), (1, .int x1), (2, .int z2), (3, .int z3), (4, .int z4), (5, .int z5)]) {o : Int32 × sS × sS} (hO : O7_count_125 S A G x1 z2 z3 z4 z5 = o) : W p l e (rmk 1) s m args below meth c H locs 0 0 (MQ below (s_Qi D aC ad X G o) args s 0 0 (s_N ad X)) (F0 m 125 ls []) := by
  obtain ⟨hx, hb, hml, hown, hw, hK, hr, hlocks⟩ := id C0
  unfold O7_count_125 at hO
  refine lv_goto (tgt := 188) hx hb d7_count_125 (by decide) ?_
  exact k7_count_188 C0 hB hX x1 z2 z3 z4 z5 (by  first | assumption | omega) (by  first | assumption | omega) (lv_sub hl [0, 1, 2, 3, 4, 5] rfl) (hO)
set_option maxRecDepth 100000 in
set_option maxHeartbeats 4000000 in
theorem k7_count_0 {p : Program} {l : Launch} {e : Env} {s : State} {m : MethodId} {args : Array Value} {below : List Frame} {meth : Method} {c : Code} {D : va_G} {aC : Nat → ClassId} {ad : Nat → Nat → Nat} {X : Nat → Nat → Prop} {S A : sS} {G : sG} {H : Heap} {locs : List Loc} (C0 : s_C p s m args meth c b7_count 6 R7 (some .int) D aC) (hB : s_B D aC ad X (s_N ad X) S A G s.heap H locs) (hX : xR X) (x1 : Int32) (hlo : ∀ i, i < 64 → 0 ≤ (A 36 0 i).toInt ∧ (A 36 0 i).toInt ≤ 6) (hen : 0 ≤ (S 20 0 34).toInt ∧ (S 20 0 34).toInt ≤ 300) (hsb : 0 ≤ (S 20 0 28).toInt ∧ (S 20 0 28).toInt < 64) {ls : Array Slot} (hl : lv_has ls 6 [(0, .ref (ad 20 0)), (1, .int x1)]) {o : Int32 × sS × sS} (hO : O7_count S A G x1 = o) : W p l e (rmk 1) s m args below meth c H locs 0 0 (MQ below (s_Qi D aC ad X G o) args s 0 0 (s_N ad X)) (F0 m 0 ls []) := by
  obtain ⟨hx, hb, hml, hown, hw, hK, hr, hlocks⟩ := id C0
  unfold O7_count at hO
  refine lv_aload_n hx hb d7_count_0 rfl (lv_at hl 0 rfl) ?_
  refine sr_get (v := .int (S 20 0 27)) hx hb hw hown hK hB 27 (hX 20 (by decide)) cf_20 us7 (by decide) fl_7_81 (rfl) d7_count_1 ?_
  refine lv_if_lt (tgt := 33) hx hb d7_count_4 (by decide) (fun c_1 => ?_) (fun c_1 => ?_)
  · refine lv_iconst (v := 0) hx hb d7_count_33 (by decide) ?_
    refine lv_istore_n (lv' := [(2, .int 0), (0, .ref (ad 20 0)), (1, .int x1)]) hx hb d7_count_34 rfl hl (by decide) rfl (fun ls hl => ?_)
    refine lv_iload_n hx hb d7_count_35 rfl (lv_at hl 2 rfl) ?_
    refine lv_iconst (v := 0) hx hb d7_count_36 (by decide) ?_
    refine lv_sipush (v := 10000) hx hb d7_count_37 (by decide) ?_
    refine sr_sp C0 hB (m7_in hX x1 0 10000 ) ml_7_93 st_7_in in_7 cd_7_in hd7_in ⟨⟨rfl, rfl⟩, by decide, by decide⟩ ⟨Nat.zero_le _, Nat.zero_le _⟩ hl.1 rfl (Nat.le_of_ble_eq_true rfl) d7_count_40 ?_
    refine lv_if_ne (tgt := 50) hx hb d7_count_43 (by decide) (fun c_2 => ?_) (fun c_2 => ?_)
    · refine lv_aload_n hx hb d7_count_50 rfl (lv_at hl 1 rfl) ?_
      refine sr_get (v := .int (S 20 0 6)) hx hb hw hown hK hB 6 (hX 20 (by decide)) cf_20 us7 (by decide) fl_7_26 (rfl) d7_count_51 ?_
      refine lv_if_ge (tgt := 62) hx hb d7_count_54 (by decide) (fun c_3 => ?_) (fun c_3 => ?_)
      · refine lv_iload_n hx hb d7_count_62 rfl (lv_at hl 0 rfl) ?_
        refine lv_if_ne (tgt := 71) hx hb d7_count_63 (by decide) (fun c => absurd (by decide) c) (fun _ => ?_)
        refine lv_bipush (v := (-4)) hx hb d7_count_66 (by decide) ?_
        refine lv_goto (tgt := 87) hx hb d7_count_68 (by decide) ?_
        refine lv_istore_n (lv' := [(3, .int (-4)), (2, .int 0), (0, .ref (ad 20 0)), (1, .int x1)]) hx hb d7_count_87 rfl hl (by decide) rfl (fun ls hl => ?_)
        refine lv_iload_n hx hb d7_count_88 rfl (lv_at hl 0 rfl) ?_
        refine lv_if_ge (tgt := 94) hx hb d7_count_89 (by decide) (fun c => absurd c (by decide)) (fun _ => ?_)
        refine lv_iload_n hx hb d7_count_92 rfl (lv_at hl 0 rfl) ?_
        exact se_i C0 hB (by rw [if_pos c_1, if_neg c_2, if_pos c_3] at hO; exact hO) d7_count_93
      · refine lv_bipush (v := (-2)) hx hb d7_count_57 (by decide) ?_
        refine lv_goto (tgt := 87) hx hb d7_count_59 (by decide) ?_
        refine lv_istore_n (lv' := [(3, .int (-2)), (2, .int 0), (0, .ref (ad 20 0)), (1, .int x1)]) hx hb d7_count_87 rfl hl (by decide) rfl (fun ls hl => ?_)
        refine lv_iload_n hx hb d7_count_88 rfl (lv_at hl 0 rfl) ?_
        refine lv_if_ge (tgt := 94) hx hb d7_count_89 (by decide) (fun c => absurd c (by decide)) (fun _ => ?_)
        refine lv_iload_n hx hb d7_count_92 rfl (lv_at hl 0 rfl) ?_
        exact se_i C0 hB (by rw [if_pos c_1, if_neg c_2, if_neg c_3] at hO; exact hO) d7_count_93
    · refine lv_iconst (v := (-1)) hx hb d7_count_46 (by decide) ?_
      refine lv_goto (tgt := 87) hx hb d7_count_47 (by decide) ?_
      refine lv_istore_n (lv' := [(3, .int (-1)), (2, .int 0), (0, .ref (ad 20 0)), (1, .int x1)]) hx hb d7_count_87 rfl hl (by decide) rfl (fun ls hl => ?_)
      refine lv_iload_n hx hb d7_count_88 rfl (lv_at hl 0 rfl) ?_
      refine lv_if_ge (tgt := 94) hx hb d7_count_89 (by decide) (fun c => absurd c (by decide)) (fun _ => ?_)
      refine lv_iload_n hx hb d7_count_92 rfl (lv_at hl 0 rfl) ?_
      exact se_i C0 hB (by rw [if_pos c_1, if_pos c_2] at hO; exact hO) d7_count_93
  · refine lv_aload_n hx hb d7_count_7 rfl (lv_at hl 0 rfl) ?_
    refine sr_get (v := .int (S 20 0 27)) hx hb hw hown hK hB 27 (hX 20 (by decide)) cf_20 us7 (by decide) fl_7_81 (rfl) d7_count_8 ?_
    refine lv_iconst (v := 1) hx hb d7_count_11 (by decide) ?_
    refine lv_icmp_eq (tgt := 33) hx hb d7_count_12 (by decide) (fun c_8 => ?_) (fun c_8 => ?_)
    · refine lv_iconst (v := 0) hx hb d7_count_33 (by decide) ?_
      refine lv_istore_n (lv' := [(2, .int 0), (0, .ref (ad 20 0)), (1, .int x1)]) hx hb d7_count_34 rfl hl (by decide) rfl (fun ls hl => ?_)
      refine lv_iload_n hx hb d7_count_35 rfl (lv_at hl 2 rfl) ?_
      refine lv_iconst (v := 0) hx hb d7_count_36 (by decide) ?_
      refine lv_sipush (v := 10000) hx hb d7_count_37 (by decide) ?_
      refine sr_sp C0 hB (m7_in hX x1 0 10000 ) ml_7_93 st_7_in in_7 cd_7_in hd7_in ⟨⟨rfl, rfl⟩, by decide, by decide⟩ ⟨Nat.zero_le _, Nat.zero_le _⟩ hl.1 rfl (Nat.le_of_ble_eq_true rfl) d7_count_40 ?_
      refine lv_if_ne (tgt := 50) hx hb d7_count_43 (by decide) (fun c_9 => ?_) (fun c_9 => ?_)
      · refine lv_aload_n hx hb d7_count_50 rfl (lv_at hl 1 rfl) ?_
        refine sr_get (v := .int (S 20 0 6)) hx hb hw hown hK hB 6 (hX 20 (by decide)) cf_20 us7 (by decide) fl_7_26 (rfl) d7_count_51 ?_
        refine lv_if_ge (tgt := 62) hx hb d7_count_54 (by decide) (fun c_10 => ?_) (fun c_10 => ?_)
        · refine lv_iload_n hx hb d7_count_62 rfl (lv_at hl 0 rfl) ?_
          refine lv_if_ne (tgt := 71) hx hb d7_count_63 (by decide) (fun c => absurd (by decide) c) (fun _ => ?_)
          refine lv_bipush (v := (-4)) hx hb d7_count_66 (by decide) ?_
          refine lv_goto (tgt := 87) hx hb d7_count_68 (by decide) ?_
          refine lv_istore_n (lv' := [(3, .int (-4)), (2, .int 0), (0, .ref (ad 20 0)), (1, .int x1)]) hx hb d7_count_87 rfl hl (by decide) rfl (fun ls hl => ?_)
          refine lv_iload_n hx hb d7_count_88 rfl (lv_at hl 0 rfl) ?_
          refine lv_if_ge (tgt := 94) hx hb d7_count_89 (by decide) (fun c => absurd c (by decide)) (fun _ => ?_)
          refine lv_iload_n hx hb d7_count_92 rfl (lv_at hl 0 rfl) ?_
          exact se_i C0 hB (by rw [if_neg c_1, if_pos c_8, if_neg c_9, if_pos c_10] at hO; exact hO) d7_count_93
        · refine lv_bipush (v := (-2)) hx hb d7_count_57 (by decide) ?_
          refine lv_goto (tgt := 87) hx hb d7_count_59 (by decide) ?_
          refine lv_istore_n (lv' := [(3, .int (-2)), (2, .int 0), (0, .ref (ad 20 0)), (1, .int x1)]) hx hb d7_count_87 rfl hl (by decide) rfl (fun ls hl => ?_)
          refine lv_iload_n hx hb d7_count_88 rfl (lv_at hl 0 rfl) ?_
          refine lv_if_ge (tgt := 94) hx hb d7_count_89 (by decide) (fun c => absurd c (by decide)) (fun _ => ?_)
          refine lv_iload_n hx hb d7_count_92 rfl (lv_at hl 0 rfl) ?_
          exact se_i C0 hB (by rw [if_neg c_1, if_pos c_8, if_neg c_9, if_neg c_10] at hO; exact hO) d7_count_93
      · refine lv_iconst (v := (-1)) hx hb d7_count_46 (by decide) ?_
        refine lv_goto (tgt := 87) hx hb d7_count_47 (by decide) ?_
        refine lv_istore_n (lv' := [(3, .int (-1)), (2, .int 0), (0, .ref (ad 20 0)), (1, .int x1)]) hx hb d7_count_87 rfl hl (by decide) rfl (fun ls hl => ?_)
        refine lv_iload_n hx hb d7_count_88 rfl (lv_at hl 0 rfl) ?_
        refine lv_if_ge (tgt := 94) hx hb d7_count_89 (by decide) (fun c => absurd c (by decide)) (fun _ => ?_)
        refine lv_iload_n hx hb d7_count_92 rfl (lv_at hl 0 rfl) ?_
        exact se_i C0 hB (by rw [if_neg c_1, if_pos c_8, if_pos c_9] at hO; exact hO) d7_count_93
    · refine lv_aload_n hx hb d7_count_15 rfl (lv_at hl 0 rfl) ?_
      refine sr_get (v := .int (S 20 0 33)) hx hb hw hown hK hB 33 (hX 20 (by decide)) cf_20 us7 (by decide) fl_7_166 (rfl) d7_count_16 ?_
      refine lv_if_ne (tgt := 33) hx hb d7_count_19 (by decide) (fun c_15 => ?_) (fun c_15 => ?_)
      · refine lv_iconst (v := 0) hx hb d7_count_33 (by decide) ?_
        refine lv_istore_n (lv' := [(2, .int 0), (0, .ref (ad 20 0)), (1, .int x1)]) hx hb d7_count_34 rfl hl (by decide) rfl (fun ls hl => ?_)
        refine lv_iload_n hx hb d7_count_35 rfl (lv_at hl 2 rfl) ?_
        refine lv_iconst (v := 0) hx hb d7_count_36 (by decide) ?_
        refine lv_sipush (v := 10000) hx hb d7_count_37 (by decide) ?_
        refine sr_sp C0 hB (m7_in hX x1 0 10000 ) ml_7_93 st_7_in in_7 cd_7_in hd7_in ⟨⟨rfl, rfl⟩, by decide, by decide⟩ ⟨Nat.zero_le _, Nat.zero_le _⟩ hl.1 rfl (Nat.le_of_ble_eq_true rfl) d7_count_40 ?_
        refine lv_if_ne (tgt := 50) hx hb d7_count_43 (by decide) (fun c_16 => ?_) (fun c_16 => ?_)
        · refine lv_aload_n hx hb d7_count_50 rfl (lv_at hl 1 rfl) ?_
          refine sr_get (v := .int (S 20 0 6)) hx hb hw hown hK hB 6 (hX 20 (by decide)) cf_20 us7 (by decide) fl_7_26 (rfl) d7_count_51 ?_
          refine lv_if_ge (tgt := 62) hx hb d7_count_54 (by decide) (fun c_17 => ?_) (fun c_17 => ?_)
          · refine lv_iload_n hx hb d7_count_62 rfl (lv_at hl 0 rfl) ?_
            refine lv_if_ne (tgt := 71) hx hb d7_count_63 (by decide) (fun c => absurd (by decide) c) (fun _ => ?_)
            refine lv_bipush (v := (-4)) hx hb d7_count_66 (by decide) ?_
            refine lv_goto (tgt := 87) hx hb d7_count_68 (by decide) ?_
            refine lv_istore_n (lv' := [(3, .int (-4)), (2, .int 0), (0, .ref (ad 20 0)), (1, .int x1)]) hx hb d7_count_87 rfl hl (by decide) rfl (fun ls hl => ?_)
            refine lv_iload_n hx hb d7_count_88 rfl (lv_at hl 0 rfl) ?_
            refine lv_if_ge (tgt := 94) hx hb d7_count_89 (by decide) (fun c => absurd c (by decide)) (fun _ => ?_)
            refine lv_iload_n hx hb d7_count_92 rfl (lv_at hl 0 rfl) ?_
            exact se_i C0 hB (by rw [if_neg c_1, if_neg c_8, if_neg c_15, if_neg c_16, if_pos c_17] at hO; exact hO) d7_count_93
          · refine lv_bipush (v := (-2)) hx hb d7_count_57 (by decide) ?_
            refine lv_goto (tgt := 87) hx hb d7_count_59 (by decide) ?_
            refine lv_istore_n (lv' := [(3, .int (-2)), (2, .int 0), (0, .ref (ad 20 0)), (1, .int x1)]) hx hb d7_count_87 rfl hl (by decide) rfl (fun ls hl => ?_)
            refine lv_iload_n hx hb d7_count_88 rfl (lv_at hl 0 rfl) ?_
            refine lv_if_ge (tgt := 94) hx hb d7_count_89 (by decide) (fun c => absurd c (by decide)) (fun _ => ?_)
            refine lv_iload_n hx hb d7_count_92 rfl (lv_at hl 0 rfl) ?_
            exact se_i C0 hB (by rw [if_neg c_1, if_neg c_8, if_neg c_15, if_neg c_16, if_neg c_17] at hO; exact hO) d7_count_93
        · refine lv_iconst (v := (-1)) hx hb d7_count_46 (by decide) ?_
          refine lv_goto (tgt := 87) hx hb d7_count_47 (by decide) ?_
          refine lv_istore_n (lv' := [(3, .int (-1)), (2, .int 0), (0, .ref (ad 20 0)), (1, .int x1)]) hx hb d7_count_87 rfl hl (by decide) rfl (fun ls hl => ?_)
          refine lv_iload_n hx hb d7_count_88 rfl (lv_at hl 0 rfl) ?_
          refine lv_if_ge (tgt := 94) hx hb d7_count_89 (by decide) (fun c => absurd c (by decide)) (fun _ => ?_)
          refine lv_iload_n hx hb d7_count_92 rfl (lv_at hl 0 rfl) ?_
          exact se_i C0 hB (by rw [if_neg c_1, if_neg c_8, if_neg c_15, if_pos c_16] at hO; exact hO) d7_count_93
      · refine lv_aload_n hx hb d7_count_22 rfl (lv_at hl 0 rfl) ?_
        refine sr_get (v := .int (S 20 0 32)) hx hb hw hown hK hB 32 (hX 20 (by decide)) cf_20 us7 (by decide) fl_7_163 (rfl) d7_count_23 ?_
        refine lv_if_ne (tgt := 33) hx hb d7_count_26 (by decide) (fun c_22 => ?_) (fun c_22 => ?_)
        · refine lv_iconst (v := 0) hx hb d7_count_33 (by decide) ?_
          refine lv_istore_n (lv' := [(2, .int 0), (0, .ref (ad 20 0)), (1, .int x1)]) hx hb d7_count_34 rfl hl (by decide) rfl (fun ls hl => ?_)
          refine lv_iload_n hx hb d7_count_35 rfl (lv_at hl 2 rfl) ?_
          refine lv_iconst (v := 0) hx hb d7_count_36 (by decide) ?_
          refine lv_sipush (v := 10000) hx hb d7_count_37 (by decide) ?_
          refine sr_sp C0 hB (m7_in hX x1 0 10000 ) ml_7_93 st_7_in in_7 cd_7_in hd7_in ⟨⟨rfl, rfl⟩, by decide, by decide⟩ ⟨Nat.zero_le _, Nat.zero_le _⟩ hl.1 rfl (Nat.le_of_ble_eq_true rfl) d7_count_40 ?_
          refine lv_if_ne (tgt := 50) hx hb d7_count_43 (by decide) (fun c_23 => ?_) (fun c_23 => ?_)
          · refine lv_aload_n hx hb d7_count_50 rfl (lv_at hl 1 rfl) ?_
            refine sr_get (v := .int (S 20 0 6)) hx hb hw hown hK hB 6 (hX 20 (by decide)) cf_20 us7 (by decide) fl_7_26 (rfl) d7_count_51 ?_
            refine lv_if_ge (tgt := 62) hx hb d7_count_54 (by decide) (fun c_24 => ?_) (fun c_24 => ?_)
            · refine lv_iload_n hx hb d7_count_62 rfl (lv_at hl 0 rfl) ?_
              refine lv_if_ne (tgt := 71) hx hb d7_count_63 (by decide) (fun c => absurd (by decide) c) (fun _ => ?_)
              refine lv_bipush (v := (-4)) hx hb d7_count_66 (by decide) ?_
              refine lv_goto (tgt := 87) hx hb d7_count_68 (by decide) ?_
              refine lv_istore_n (lv' := [(3, .int (-4)), (2, .int 0), (0, .ref (ad 20 0)), (1, .int x1)]) hx hb d7_count_87 rfl hl (by decide) rfl (fun ls hl => ?_)
              refine lv_iload_n hx hb d7_count_88 rfl (lv_at hl 0 rfl) ?_
              refine lv_if_ge (tgt := 94) hx hb d7_count_89 (by decide) (fun c => absurd c (by decide)) (fun _ => ?_)
              refine lv_iload_n hx hb d7_count_92 rfl (lv_at hl 0 rfl) ?_
              exact se_i C0 hB (by rw [if_neg c_1, if_neg c_8, if_pos c_15, if_neg c_22, if_neg c_23, if_pos c_24] at hO; exact hO) d7_count_93
            · refine lv_bipush (v := (-2)) hx hb d7_count_57 (by decide) ?_
              refine lv_goto (tgt := 87) hx hb d7_count_59 (by decide) ?_
              refine lv_istore_n (lv' := [(3, .int (-2)), (2, .int 0), (0, .ref (ad 20 0)), (1, .int x1)]) hx hb d7_count_87 rfl hl (by decide) rfl (fun ls hl => ?_)
              refine lv_iload_n hx hb d7_count_88 rfl (lv_at hl 0 rfl) ?_
              refine lv_if_ge (tgt := 94) hx hb d7_count_89 (by decide) (fun c => absurd c (by decide)) (fun _ => ?_)
              refine lv_iload_n hx hb d7_count_92 rfl (lv_at hl 0 rfl) ?_
              exact se_i C0 hB (by rw [if_neg c_1, if_neg c_8, if_pos c_15, if_neg c_22, if_neg c_23, if_neg c_24] at hO; exact hO) d7_count_93
          · refine lv_iconst (v := (-1)) hx hb d7_count_46 (by decide) ?_
            refine lv_goto (tgt := 87) hx hb d7_count_47 (by decide) ?_
            refine lv_istore_n (lv' := [(3, .int (-1)), (2, .int 0), (0, .ref (ad 20 0)), (1, .int x1)]) hx hb d7_count_87 rfl hl (by decide) rfl (fun ls hl => ?_)
            refine lv_iload_n hx hb d7_count_88 rfl (lv_at hl 0 rfl) ?_
            refine lv_if_ge (tgt := 94) hx hb d7_count_89 (by decide) (fun c => absurd c (by decide)) (fun _ => ?_)
            refine lv_iload_n hx hb d7_count_92 rfl (lv_at hl 0 rfl) ?_
            exact se_i C0 hB (by rw [if_neg c_1, if_neg c_8, if_pos c_15, if_neg c_22, if_pos c_23] at hO; exact hO) d7_count_93
        · refine lv_iconst (v := 1) hx hb d7_count_29 (by decide) ?_
          refine lv_goto (tgt := 34) hx hb d7_count_30 (by decide) ?_
          refine lv_istore_n (lv' := [(2, .int 1), (0, .ref (ad 20 0)), (1, .int x1)]) hx hb d7_count_34 rfl hl (by decide) rfl (fun ls hl => ?_)
          refine lv_iload_n hx hb d7_count_35 rfl (lv_at hl 2 rfl) ?_
          refine lv_iconst (v := 0) hx hb d7_count_36 (by decide) ?_
          refine lv_sipush (v := 10000) hx hb d7_count_37 (by decide) ?_
          refine sr_sp C0 hB (m7_in hX x1 0 10000 ) ml_7_93 st_7_in in_7 cd_7_in hd7_in ⟨⟨rfl, rfl⟩, by decide, by decide⟩ ⟨Nat.zero_le _, Nat.zero_le _⟩ hl.1 rfl (Nat.le_of_ble_eq_true rfl) d7_count_40 ?_
          refine lv_if_ne (tgt := 50) hx hb d7_count_43 (by decide) (fun c_29 => ?_) (fun c_29 => ?_)
          · refine lv_aload_n hx hb d7_count_50 rfl (lv_at hl 1 rfl) ?_
            refine sr_get (v := .int (S 20 0 6)) hx hb hw hown hK hB 6 (hX 20 (by decide)) cf_20 us7 (by decide) fl_7_26 (rfl) d7_count_51 ?_
            refine lv_if_ge (tgt := 62) hx hb d7_count_54 (by decide) (fun c_30 => ?_) (fun c_30 => ?_)
            · refine lv_iload_n hx hb d7_count_62 rfl (lv_at hl 0 rfl) ?_
              refine lv_if_ne (tgt := 71) hx hb d7_count_63 (by decide) (fun _ => ?_) (fun c => absurd c (by decide))
              refine lv_aload_n hx hb d7_count_71 rfl (lv_at hl 1 rfl) ?_
              refine sr_get (v := .int (S 20 0 34)) hx hb hw hown hK hB 34 (hX 20 (by decide)) cf_20 us7 (by decide) fl_7_130 (rfl) d7_count_72 ?_
              refine lv_sipush (v := 300) hx hb d7_count_75 (by decide) ?_
              refine lv_icmp_ne (tgt := 86) hx hb d7_count_78 (by decide) (fun c_32 => ?_) (fun c_32 => ?_)
              · refine lv_iconst (v := 0) hx hb d7_count_86 (by decide) ?_
                refine lv_istore_n (lv' := [(3, .int 0), (2, .int 1), (0, .ref (ad 20 0)), (1, .int x1)]) hx hb d7_count_87 rfl hl (by decide) rfl (fun ls hl => ?_)
                refine lv_iload_n hx hb d7_count_88 rfl (lv_at hl 0 rfl) ?_
                refine lv_if_ge (tgt := 94) hx hb d7_count_89 (by decide) (fun _ => ?_) (fun c => absurd (by decide) c)
                refine lv_aload_n hx hb d7_count_94 rfl (lv_at hl 2 rfl) ?_
                refine sr_get (v := .int (S 20 0 28)) hx hb hw hown hK hB 28 (hX 20 (by decide)) cf_20 us7 (by decide) fl_7_153 (rfl) d7_count_95 ?_
                refine lv_istore (lv' := [(4, .int (S 20 0 28)), (3, .int 0), (2, .int 1), (0, .ref (ad 20 0)), (1, .int x1)]) hx hb d7_count_98 hl (by decide) rfl (fun ls hl => ?_)
                refine lv_iload_n hx hb d7_count_100 rfl (lv_at hl 4 rfl) ?_
                refine lv_aload_n hx hb d7_count_101 rfl (lv_at hl 3 rfl) ?_
                refine lv_iload hx hb d7_count_102 (lv_at hl 0 rfl) ?_
                refine sr_vp C0 hB (m7_bookOf hX (S 20 0 28) (by (have kc_29 := in_t c_29); (have kc_32 := ne_i c_32); (have l0 : (0 : Int32).toInt = 0 := rfl); (have l10000 : (10000 : Int32).toInt = 10000 := rfl); (have l20 : (20 : Int32).toInt = 20 := rfl); (have l300 : (300 : Int32).toInt = 300 := rfl); (have l34 : (34 : Int32).toInt = 34 := rfl);  first | assumption | omega) (by (have kc_29 := in_t c_29); (have kc_32 := ne_i c_32); (have l0 : (0 : Int32).toInt = 0 := rfl); (have l10000 : (10000 : Int32).toInt = 10000 := rfl); (have l20 : (20 : Int32).toInt = 20 := rfl); (have l300 : (300 : Int32).toInt = 300 := rfl); (have l34 : (34 : Int32).toInt = 34 := rfl);  first | assumption | omega)) (hX 20 (by decide)) cf_20 ml_7_169 im_7_bookOf se_7_bookOf in_7 cd_7_bookOf hd7_bookOf ⟨⟨rfl, rfl⟩, by decide, by decide⟩ ⟨Nat.zero_le _, Nat.zero_le _⟩ hl.1 rfl (Nat.le_of_ble_eq_true rfl) d7_count_104 ?_
                refine lv_isub hx hb d7_count_107 ?_
                refine lv_istore (lv' := [(5, .int (x1 - (V7_bookOf S A G (S 20 0 28)))), (4, .int (S 20 0 28)), (3, .int 0), (2, .int 1), (0, .ref (ad 20 0)), (1, .int x1)]) hx hb d7_count_108 hl (by decide) rfl (fun ls hl => ?_)
                refine lv_iload hx hb d7_count_110 (lv_at hl 0 rfl) ?_
                refine lv_if_ge (tgt := 128) hx hb d7_count_112 (by decide) (fun c_34 => ?_) (fun c_34 => ?_)
                · refine lv_iload hx hb d7_count_128 (lv_at hl 0 rfl) ?_
                  refine lv_if_le (tgt := 158) hx hb d7_count_130 (by decide) (fun c_35 => ?_) (fun c_35 => ?_)
                  · refine lv_iload hx hb d7_count_158 (lv_at hl 0 rfl) ?_
                    refine lv_if_le (tgt := 188) hx hb d7_count_160 (by decide) (fun _ => ?_) (fun c => absurd c_35 c)
                    exact k7_count_188 C0 hB hX x1 1 0 (S 20 0 28) (x1 - (V7_bookOf S A G (S 20 0 28))) (by (have kc_1 := nlt_i c_1); (have kc_8 := ne_i c_8); (have kc_15 := congrArg Int32.toInt c_15); (have kc_22 := congrArg Int32.toInt c_22); (have kc_29 := in_t c_29); (have kc_30 := le_i c_30); (have kc_32 := ne_i c_32); (have kc_34 := le_i c_34); (have kc_35 := le_i c_35); (have l0 : (0 : Int32).toInt = 0 := rfl); (have l1 : (1 : Int32).toInt = 1 := rfl); (have l10000 : (10000 : Int32).toInt = 10000 := rfl); (have l20 : (20 : Int32).toInt = 20 := rfl); (have l27 : (27 : Int32).toInt = 27 := rfl); (have l28 : (28 : Int32).toInt = 28 := rfl); (have l300 : (300 : Int32).toInt = 300 := rfl); (have l32 : (32 : Int32).toInt = 32 := rfl); (have l33 : (33 : Int32).toInt = 33 := rfl); (have l34 : (34 : Int32).toInt = 34 := rfl); (have l6 : (6 : Int32).toInt = 6 := rfl);  first | assumption | omega) (by (have kc_1 := nlt_i c_1); (have kc_8 := ne_i c_8); (have kc_15 := congrArg Int32.toInt c_15); (have kc_22 := congrArg Int32.toInt c_22); (have kc_29 := in_t c_29); (have kc_30 := le_i c_30); (have kc_32 := ne_i c_32); (have kc_34 := le_i c_34); (have kc_35 := le_i c_35); (have l0 : (0 : Int32).toInt = 0 := rfl); (have l1 : (1 : Int32).toInt = 1 := rfl); (have l10000 : (10000 : Int32).toInt = 10000 := rfl); (have l20 : (20 : Int32).toInt = 20 := rfl); (have l27 : (27 : Int32).toInt = 27 := rfl); (have l28 : (28 : Int32).toInt = 28 := rfl); (have l300 : (300 : Int32).toInt = 300 := rfl); (have l32 : (32 : Int32).toInt = 32 := rfl); (have l33 : (33 : Int32).toInt = 33 := rfl); (have l34 : (34 : Int32).toInt = 34 := rfl); (have l6 : (6 : Int32).toInt = 6 := rfl);  first | assumption | omega) (lv_sub hl [4, 5, 3, 2, 1, 0] rfl) (by rw [if_neg c_1, if_neg c_8, if_pos c_15, if_pos c_22, if_neg c_29, if_pos c_30, if_neg c_32, if_pos c_34, if_pos c_35] at hO; exact hO)
                  · refine lv_aload_n hx hb d7_count_133 rfl (lv_at hl 4 rfl) ?_
                    refine sr_get (v := .ref (ad 36 0)) hx hb hw hown hK hB 15 (hX 20 (by decide)) cf_20 us7 (by decide) fl_7_48 (rfl) d7_count_134 ?_
                    refine lv_iload hx hb d7_count_137 (lv_at hl 1 rfl) ?_
                    refine sr_iald (v := A 36 0 ((S 20 0 28).toNatClampNeg)) hx hb hK hB (hX 36 (by decide)) rfl rfl (by (refine vp_in_iff.mpr ?_); (show 0 ≤ (S 20 0 28).toInt ∧ (S 20 0 28).toInt < ((64 : Nat) : Int)); (have kc_34 := le_i c_34); (have kc_35 := nle_i c_35); (have l0 : (0 : Int32).toInt = 0 := rfl); (have l20 : (20 : Int32).toInt = 20 := rfl); (have l28 : (28 : Int32).toInt = 28 := rfl);  omega) d7_count_139 (rfl) ?_
                    refine lv_if_ne (tgt := 158) hx hb d7_count_140 (by decide) (fun c_37 => ?_) (fun c_37 => ?_)
                    · refine lv_iload hx hb d7_count_158 (lv_at hl 0 rfl) ?_
                      refine lv_if_le (tgt := 188) hx hb d7_count_160 (by decide) (fun c => absurd c c_35) (fun _ => ?_)
                      refine lv_aload_n hx hb d7_count_163 rfl (lv_at hl 4 rfl) ?_
                      refine sr_get (v := .ref (ad 37 0)) hx hb hw hown hK hB 16 (hX 20 (by decide)) cf_20 us7 (by decide) fl_7_51 (rfl) d7_count_164 ?_
                      refine lv_bipush (v := 6) hx hb d7_count_167 (by decide) ?_
                      refine lv_iload hx hb d7_count_169 (lv_at hl 1 rfl) ?_
                      refine lv_imul hx hb d7_count_171 ?_
                      refine lv_aload_n hx hb d7_count_172 rfl (lv_at hl 4 rfl) ?_
                      refine sr_get (v := .ref (ad 36 0)) hx hb hw hown hK hB 15 (hX 20 (by decide)) cf_20 us7 (by decide) fl_7_48 (rfl) d7_count_173 ?_
                      refine lv_iload hx hb d7_count_176 (lv_at hl 1 rfl) ?_
                      refine sr_iald (v := A 36 0 ((S 20 0 28).toNatClampNeg)) hx hb hK hB (hX 36 (by decide)) rfl rfl (by (refine vp_in_iff.mpr ?_); (show 0 ≤ (S 20 0 28).toInt ∧ (S 20 0 28).toInt < ((64 : Nat) : Int)); (have kc_34 := le_i c_34); (have kc_35 := nle_i c_35); (have kc_37 := ne_i c_37); (have l0 : (0 : Int32).toInt = 0 := rfl); (have l20 : (20 : Int32).toInt = 20 := rfl); (have l28 : (28 : Int32).toInt = 28 := rfl); (have l36 : (36 : Int32).toInt = 36 := rfl);  omega) d7_count_178 (rfl) ?_
                      refine lv_iadd hx hb d7_count_179 ?_
                      refine lv_iconst (v := 1) hx hb d7_count_180 (by decide) ?_
                      refine lv_isub hx hb d7_count_181 ?_
                      refine lv_dup2_11 hx hb d7_count_182 rfl rfl ?_
                      refine sr_iald (v := A 37 0 ((((6 * (S 20 0 28)) + (A 36 0 ((S 20 0 28).toNatClampNeg))) - 1).toNatClampNeg)) hx hb hK hB (hX 37 (by decide)) rfl rfl (by have hL := at_i hlo hsb; have hb1 := mul6_i (x := S 20 0 28) (by omega) (by omega); have q := ne_i (by assumption : ¬ A 36 0 ((S 20 0 28).toNatClampNeg) = 0); have l0 : (0 : Int32).toInt = 0 := rfl; have b2 := add_i (x := 6 * S 20 0 28) (y := A 36 0 ((S 20 0 28).toNatClampNeg)) (by omega) (by omega); have b3 := sub1_i (x := 6 * S 20 0 28 + A 36 0 ((S 20 0 28).toNatClampNeg)) (by omega); exact vp_in_iff.mpr (show _ ∧ _ < ((384 : Nat) : Int) by omega)) d7_count_183 (rfl) ?_
                      refine lv_iload hx hb d7_count_184 (lv_at hl 0 rfl) ?_
                      refine lv_iadd hx hb d7_count_186 ?_
                      refine sr_iast hx hb hK hB (hX 37 (by decide)) rfl rfl (by have hL := at_i hlo hsb; have hb1 := mul6_i (x := S 20 0 28) (by omega) (by omega); have q := ne_i (by assumption : ¬ A 36 0 ((S 20 0 28).toNatClampNeg) = 0); have l0 : (0 : Int32).toInt = 0 := rfl; have b2 := add_i (x := 6 * S 20 0 28) (y := A 36 0 ((S 20 0 28).toNatClampNeg)) (by omega) (by omega); have b3 := sub1_i (x := 6 * S 20 0 28 + A 36 0 ((S 20 0 28).toNatClampNeg)) (by omega); exact vp_in_iff.mpr (show _ ∧ _ < ((384 : Nat) : Int) by omega)) d7_count_187 (fun H locs hB => ?_)
                      exact k7_count_188 C0 hB hX x1 1 0 (S 20 0 28) (x1 - (V7_bookOf S A G (S 20 0 28))) (by (have kc_1 := nlt_i c_1); (have kc_8 := ne_i c_8); (have kc_15 := congrArg Int32.toInt c_15); (have kc_22 := congrArg Int32.toInt c_22); (have kc_29 := in_t c_29); (have kc_30 := le_i c_30); (have kc_32 := ne_i c_32); (have kc_34 := le_i c_34); (have kc_35 := nle_i c_35); (have kc_37 := ne_i c_37); (have l0 : (0 : Int32).toInt = 0 := rfl); (have l1 : (1 : Int32).toInt = 1 := rfl); (have l10000 : (10000 : Int32).toInt = 10000 := rfl); (have l20 : (20 : Int32).toInt = 20 := rfl); (have l27 : (27 : Int32).toInt = 27 := rfl); (have l28 : (28 : Int32).toInt = 28 := rfl); (have l300 : (300 : Int32).toInt = 300 := rfl); (have l32 : (32 : Int32).toInt = 32 := rfl); (have l33 : (33 : Int32).toInt = 33 := rfl); (have l34 : (34 : Int32).toInt = 34 := rfl); (have l36 : (36 : Int32).toInt = 36 := rfl); (have l6 : (6 : Int32).toInt = 6 := rfl);  first | assumption | omega) (by (have kc_1 := nlt_i c_1); (have kc_8 := ne_i c_8); (have kc_15 := congrArg Int32.toInt c_15); (have kc_22 := congrArg Int32.toInt c_22); (have kc_29 := in_t c_29); (have kc_30 := le_i c_30); (have kc_32 := ne_i c_32); (have kc_34 := le_i c_34); (have kc_35 := nle_i c_35); (have kc_37 := ne_i c_37); (have l0 : (0 : Int32).toInt = 0 := rfl); (have l1 : (1 : Int32).toInt = 1 := rfl); (have l10000 : (10000 : Int32).toInt = 10000 := rfl); (have l20 : (20 : Int32).toInt = 20 := rfl); (have l27 : (27 : Int32).toInt = 27 := rfl); (have l28 : (28 : Int32).toInt = 28 := rfl); (have l300 : (300 : Int32).toInt = 300 := rfl); (have l32 : (32 : Int32).toInt = 32 := rfl); (have l33 : (33 : Int32).toInt = 33 := rfl); (have l34 : (34 : Int32).toInt = 34 := rfl); (have l36 : (36 : Int32).toInt = 36 := rfl); (have l6 : (6 : Int32).toInt = 6 := rfl);  first | assumption | omega) (lv_sub hl [4, 5, 3, 2, 1, 0] rfl) (by rw [if_neg c_1, if_neg c_8, if_pos c_15, if_pos c_22, if_neg c_29, if_pos c_30, if_neg c_32, if_pos c_34, if_neg c_35, if_neg c_37] at hO; exact hO)
                    · refine lv_aload_n hx hb d7_count_143 rfl (lv_at hl 4 rfl) ?_
                      refine lv_iload hx hb d7_count_144 (lv_at hl 1 rfl) ?_
                      refine lv_aload_n hx hb d7_count_146 rfl (lv_at hl 4 rfl) ?_
                      refine sr_get (v := .int (S 20 0 0)) hx hb hw hown hK hB 0 (hX 20 (by decide)) cf_20 us7 (by decide) fl_7_100 (rfl) d7_count_147 ?_
                      refine lv_iload hx hb d7_count_150 (lv_at hl 0 rfl) ?_
                      refine sr_vv C0 hB (m7_putLot hX (S 20 0 28) (S 20 0 0) (x1 - (V7_bookOf S A G (S 20 0 28))) (by (have kc_29 := in_t c_29); (have kc_32 := ne_i c_32); (have kc_34 := le_i c_34); (have kc_35 := nle_i c_35); (have kc_37 := congrArg Int32.toInt c_37); (have l0 : (0 : Int32).toInt = 0 := rfl); (have l10000 : (10000 : Int32).toInt = 10000 := rfl); (have l20 : (20 : Int32).toInt = 20 := rfl); (have l28 : (28 : Int32).toInt = 28 := rfl); (have l300 : (300 : Int32).toInt = 300 := rfl); (have l34 : (34 : Int32).toInt = 34 := rfl); (have l36 : (36 : Int32).toInt = 36 := rfl);  first | assumption | omega) (by (have kc_29 := in_t c_29); (have kc_32 := ne_i c_32); (have kc_34 := le_i c_34); (have kc_35 := nle_i c_35); (have kc_37 := congrArg Int32.toInt c_37); (have l0 : (0 : Int32).toInt = 0 := rfl); (have l10000 : (10000 : Int32).toInt = 10000 := rfl); (have l20 : (20 : Int32).toInt = 20 := rfl); (have l28 : (28 : Int32).toInt = 28 := rfl); (have l300 : (300 : Int32).toInt = 300 := rfl); (have l34 : (34 : Int32).toInt = 34 := rfl); (have l36 : (36 : Int32).toInt = 36 := rfl);  first | assumption | omega) (by (have q := congrArg Int32.toInt (by assumption : A 36 0 ((S 20 0 28).toNatClampNeg) = 0)); (have l0 : (0 : Int32).toInt = 0 := rfl); omega)) (hX 20 (by decide)) cf_20 ml_7_176 im_7_putLot se_7_putLot in_7 cd_7_putLot hd7_putLot ⟨⟨rfl, rfl⟩, by decide, by decide⟩ ⟨Nat.zero_le _, Nat.zero_le _⟩ hl.1 rfl (Nat.le_of_ble_eq_true rfl) d7_count_152 (fun H locs hB => ?_)
                      exact k7_count_155 C0 hB hX x1 1 0 (S 20 0 28) (x1 - (V7_bookOf S A G (S 20 0 28))) (by rw [(putLot_lo hsb hlo (by (have q := congrArg Int32.toInt (by assumption : A 36 0 ((S 20 0 28).toNatClampNeg) = 0)); (have l0 : (0 : Int32).toInt = 0 := rfl); omega)).1]; (have kc_1 := nlt_i c_1); (have kc_8 := ne_i c_8); (have kc_15 := congrArg Int32.toInt c_15); (have kc_22 := congrArg Int32.toInt c_22); (have kc_29 := in_t c_29); (have kc_30 := le_i c_30); (have kc_32 := ne_i c_32); (have kc_34 := le_i c_34); (have kc_35 := nle_i c_35); (have kc_37 := congrArg Int32.toInt c_37); (have l0 : (0 : Int32).toInt = 0 := rfl); (have l1 : (1 : Int32).toInt = 1 := rfl); (have l10000 : (10000 : Int32).toInt = 10000 := rfl); (have l20 : (20 : Int32).toInt = 20 := rfl); (have l27 : (27 : Int32).toInt = 27 := rfl); (have l28 : (28 : Int32).toInt = 28 := rfl); (have l300 : (300 : Int32).toInt = 300 := rfl); (have l32 : (32 : Int32).toInt = 32 := rfl); (have l33 : (33 : Int32).toInt = 33 := rfl); (have l34 : (34 : Int32).toInt = 34 := rfl); (have l36 : (36 : Int32).toInt = 36 := rfl); (have l6 : (6 : Int32).toInt = 6 := rfl);  omega) (by (have kc_1 := nlt_i c_1); (have kc_8 := ne_i c_8); (have kc_15 := congrArg Int32.toInt c_15); (have kc_22 := congrArg Int32.toInt c_22); (have kc_29 := in_t c_29); (have kc_30 := le_i c_30); (have kc_32 := ne_i c_32); (have kc_34 := le_i c_34); (have kc_35 := nle_i c_35); (have kc_37 := congrArg Int32.toInt c_37); (have l0 : (0 : Int32).toInt = 0 := rfl); (have l1 : (1 : Int32).toInt = 1 := rfl); (have l10000 : (10000 : Int32).toInt = 10000 := rfl); (have l20 : (20 : Int32).toInt = 20 := rfl); (have l27 : (27 : Int32).toInt = 27 := rfl); (have l28 : (28 : Int32).toInt = 28 := rfl); (have l300 : (300 : Int32).toInt = 300 := rfl); (have l32 : (32 : Int32).toInt = 32 := rfl); (have l33 : (33 : Int32).toInt = 33 := rfl); (have l34 : (34 : Int32).toInt = 34 := rfl); (have l36 : (36 : Int32).toInt = 36 := rfl); (have l6 : (6 : Int32).toInt = 6 := rfl);  first | assumption | omega) (lv_sub hl [4, 5, 3, 2, 1, 0] rfl) (by rw [if_neg c_1, if_neg c_8, if_pos c_15, if_pos c_22, if_neg c_29, if_pos c_30, if_neg c_32, if_pos c_34, if_neg c_35, if_pos c_37] at hO; exact hO)
                · refine lv_aload_n hx hb d7_count_115 rfl (lv_at hl 4 rfl) ?_
                  refine lv_iload hx hb d7_count_116 (lv_at hl 1 rfl) ?_
                  refine lv_iload hx hb d7_count_118 (lv_at hl 0 rfl) ?_
                  refine lv_ineg hx hb d7_count_120 ?_
                  refine lv_iconst (v := 1) hx hb d7_count_121 (by decide) ?_
                  refine sr_vv C0 hB (m7_takeUnits hX (S 20 0 28) (-(x1 - (V7_bookOf S A G (S 20 0 28)))) 1 (by (have kc_29 := in_t c_29); (have kc_32 := ne_i c_32); (have kc_34 := nle_i c_34); (have l0 : (0 : Int32).toInt = 0 := rfl); (have l10000 : (10000 : Int32).toInt = 10000 := rfl); (have l20 : (20 : Int32).toInt = 20 := rfl); (have l28 : (28 : Int32).toInt = 28 := rfl); (have l300 : (300 : Int32).toInt = 300 := rfl); (have l34 : (34 : Int32).toInt = 34 := rfl);  first | assumption | omega) (by (have kc_29 := in_t c_29); (have kc_32 := ne_i c_32); (have kc_34 := nle_i c_34); (have l0 : (0 : Int32).toInt = 0 := rfl); (have l10000 : (10000 : Int32).toInt = 10000 := rfl); (have l20 : (20 : Int32).toInt = 20 := rfl); (have l28 : (28 : Int32).toInt = 28 := rfl); (have l300 : (300 : Int32).toInt = 300 := rfl); (have l34 : (34 : Int32).toInt = 34 := rfl);  first | assumption | omega)) (hX 20 (by decide)) cf_20 ml_7_172 im_7_takeUnits se_7_takeUnits in_7 cd_7_takeUnits hd7_takeUnits ⟨⟨rfl, rfl⟩, by decide, by decide⟩ ⟨Nat.zero_le _, Nat.zero_le _⟩ hl.1 rfl (Nat.le_of_ble_eq_true rfl) d7_count_122 (fun H locs hB => ?_)
                  exact k7_count_125 C0 hB hX x1 1 0 (S 20 0 28) (x1 - (V7_bookOf S A G (S 20 0 28))) (by rw [(takeUnits_lo hsb hlo).1]; (have kc_1 := nlt_i c_1); (have kc_8 := ne_i c_8); (have kc_15 := congrArg Int32.toInt c_15); (have kc_22 := congrArg Int32.toInt c_22); (have kc_29 := in_t c_29); (have kc_30 := le_i c_30); (have kc_32 := ne_i c_32); (have kc_34 := nle_i c_34); (have l0 : (0 : Int32).toInt = 0 := rfl); (have l1 : (1 : Int32).toInt = 1 := rfl); (have l10000 : (10000 : Int32).toInt = 10000 := rfl); (have l20 : (20 : Int32).toInt = 20 := rfl); (have l27 : (27 : Int32).toInt = 27 := rfl); (have l28 : (28 : Int32).toInt = 28 := rfl); (have l300 : (300 : Int32).toInt = 300 := rfl); (have l32 : (32 : Int32).toInt = 32 := rfl); (have l33 : (33 : Int32).toInt = 33 := rfl); (have l34 : (34 : Int32).toInt = 34 := rfl); (have l6 : (6 : Int32).toInt = 6 := rfl);  omega) (by (have kc_1 := nlt_i c_1); (have kc_8 := ne_i c_8); (have kc_15 := congrArg Int32.toInt c_15); (have kc_22 := congrArg Int32.toInt c_22); (have kc_29 := in_t c_29); (have kc_30 := le_i c_30); (have kc_32 := ne_i c_32); (have kc_34 := nle_i c_34); (have l0 : (0 : Int32).toInt = 0 := rfl); (have l1 : (1 : Int32).toInt = 1 := rfl); (have l10000 : (10000 : Int32).toInt = 10000 := rfl); (have l20 : (20 : Int32).toInt = 20 := rfl); (have l27 : (27 : Int32).toInt = 27 := rfl); (have l28 : (28 : Int32).toInt = 28 := rfl); (have l300 : (300 : Int32).toInt = 300 := rfl); (have l32 : (32 : Int32).toInt = 32 := rfl); (have l33 : (33 : Int32).toInt = 33 := rfl); (have l34 : (34 : Int32).toInt = 34 := rfl); (have l6 : (6 : Int32).toInt = 6 := rfl);  first | assumption | omega) (lv_sub hl [4, 5, 3, 2, 1, 0] rfl) (by rw [if_neg c_1, if_neg c_8, if_pos c_15, if_pos c_22, if_neg c_29, if_pos c_30, if_neg c_32, if_neg c_34] at hO; exact hO)
              · refine lv_bipush (v := (-8)) hx hb d7_count_81 (by decide) ?_
                refine lv_goto (tgt := 87) hx hb d7_count_83 (by decide) ?_
                refine lv_istore_n (lv' := [(3, .int (-8)), (2, .int 1), (0, .ref (ad 20 0)), (1, .int x1)]) hx hb d7_count_87 rfl hl (by decide) rfl (fun ls hl => ?_)
                refine lv_iload_n hx hb d7_count_88 rfl (lv_at hl 0 rfl) ?_
                refine lv_if_ge (tgt := 94) hx hb d7_count_89 (by decide) (fun c => absurd c (by decide)) (fun _ => ?_)
                refine lv_iload_n hx hb d7_count_92 rfl (lv_at hl 0 rfl) ?_
                exact se_i C0 hB (by rw [if_neg c_1, if_neg c_8, if_pos c_15, if_pos c_22, if_neg c_29, if_pos c_30, if_pos c_32] at hO; exact hO) d7_count_93
            · refine lv_bipush (v := (-2)) hx hb d7_count_57 (by decide) ?_
              refine lv_goto (tgt := 87) hx hb d7_count_59 (by decide) ?_
              refine lv_istore_n (lv' := [(3, .int (-2)), (2, .int 1), (0, .ref (ad 20 0)), (1, .int x1)]) hx hb d7_count_87 rfl hl (by decide) rfl (fun ls hl => ?_)
              refine lv_iload_n hx hb d7_count_88 rfl (lv_at hl 0 rfl) ?_
              refine lv_if_ge (tgt := 94) hx hb d7_count_89 (by decide) (fun c => absurd c (by decide)) (fun _ => ?_)
              refine lv_iload_n hx hb d7_count_92 rfl (lv_at hl 0 rfl) ?_
              exact se_i C0 hB (by rw [if_neg c_1, if_neg c_8, if_pos c_15, if_pos c_22, if_neg c_29, if_neg c_30] at hO; exact hO) d7_count_93
          · refine lv_iconst (v := (-1)) hx hb d7_count_46 (by decide) ?_
            refine lv_goto (tgt := 87) hx hb d7_count_47 (by decide) ?_
            refine lv_istore_n (lv' := [(3, .int (-1)), (2, .int 1), (0, .ref (ad 20 0)), (1, .int x1)]) hx hb d7_count_87 rfl hl (by decide) rfl (fun ls hl => ?_)
            refine lv_iload_n hx hb d7_count_88 rfl (lv_at hl 0 rfl) ?_
            refine lv_if_ge (tgt := 94) hx hb d7_count_89 (by decide) (fun c => absurd c (by decide)) (fun _ => ?_)
            refine lv_iload_n hx hb d7_count_92 rfl (lv_at hl 0 rfl) ?_
            exact se_i C0 hB (by rw [if_neg c_1, if_neg c_8, if_pos c_15, if_pos c_22, if_pos c_29] at hO; exact hO) d7_count_93
theorem hd7_count : y7_count.cls = R7 ∧ y7_count.cls ≠ "java/lang/invoke/MethodHandle" ∧ y7_count.cls ≠ "java/lang/invoke/VarHandle" ∧ (parseMethodDescriptor y7_count.desc).map (fun d => d.parameters.length) = some 1 := ⟨rfl, by decide, by decide, by decide +kernel⟩
theorem m7_count {l : Launch} {D : va_G} {aC : Nat → ClassId} {ad : Nat → Nat → Nat} {X : Nat → Nat → Prop} {S A : sS} {G : sG} (hX : xR X) (x1 : Int32) (hlo : ∀ i, i < 64 → 0 ≤ (A 36 0 i).toInt ∧ (A 36 0 i).toInt ≤ 6) (hen : 0 ≤ (S 20 0 34).toInt ∧ (S 20 0 34).toInt ≤ 300) (hsb : 0 ≤ (S 20 0 28).toInt ∧ (S 20 0 28).toInt < 64) : Met l y7_count (.code y7_count b7_count 6 (some .int) :: wall) (rmk 1) (s_Pc [.ref (ad 20 0), .int x1] D aC ad X S A G) (s_Qi D aC ad X G (O7_count S A G x1)) 0 0 (s_N ad X) :=
  s_met (by decide) rfl (Nat.le_of_ble_eq_true rfl) (fun p e s m args below meth c C0 hB ls hl => k7_count_0 C0 hB hX x1 hlo hen hsb hl rfl)

def V7_refusal (S A : sS) (G : sG) (x1 : Int32) (x2 : Int32) (x3 : Int32) : Int32 := if V7_hasItem S A G x2 = 0 then if S 20 0 27 = 1 then if V7_in S A G x1 0 1000 = 0 then (-1) else (-1) else if V7_in S A G x1 0 1000 = 0 then (-1) else if 0 ≤ S 20 0 6 then if S 20 0 27 < 0 then (-4) else if S 20 0 27 = 2 then (-4) else if S 20 0 31 = 0 then if S 20 0 33 = 0 then if S 20 0 27 = 0 then if x1 ≤ A 43 0 ((S 20 0 29).toNatClampNeg) then if x1 ≤ V7_givableOf S A G (S 20 0 28) then if S 20 0 34 = 300 then (-8) else 0 else (-7) else (-6) else if S 20 0 27 = 3 then if x1 ≤ V7_bookOf S A G (S 20 0 28) then if S 20 0 34 = 300 then (-8) else 0 else (-7) else if x1 ≤ x1 then if S 20 0 34 = 300 then (-8) else 0 else (-7) else (-4) else if S 20 0 32 = 0 then (-4) else if S 20 0 33 = 0 then if S 20 0 27 = 0 then if x1 ≤ A 43 0 ((S 20 0 29).toNatClampNeg) then if x1 ≤ V7_givableOf S A G (S 20 0 28) then if S 20 0 34 = 300 then (-8) else 0 else (-7) else (-6) else if S 20 0 27 = 3 then if x1 ≤ V7_bookOf S A G (S 20 0 28) then if S 20 0 34 = 300 then (-8) else 0 else (-7) else if x1 ≤ x1 then if S 20 0 34 = 300 then (-8) else 0 else (-7) else (-4) else (-2) else if x3 ≤ S 20 0 0 then if S 20 0 27 = 1 then if V7_in S A G x1 0 1000 = 0 then (-1) else (-1) else if V7_in S A G x1 0 1000 = 0 then (-1) else if 0 ≤ S 20 0 6 then if S 20 0 27 < 0 then (-4) else if S 20 0 27 = 2 then (-4) else if S 20 0 31 = 0 then if S 20 0 33 = 0 then if S 20 0 27 = 0 then if x1 ≤ A 43 0 ((S 20 0 29).toNatClampNeg) then if x1 ≤ V7_givableOf S A G (S 20 0 28) then if S 20 0 34 = 300 then (-8) else 0 else (-7) else (-6) else if S 20 0 27 = 3 then if x1 ≤ V7_bookOf S A G (S 20 0 28) then if S 20 0 34 = 300 then (-8) else 0 else (-7) else if x1 ≤ x1 then if S 20 0 34 = 300 then (-8) else 0 else (-7) else (-4) else if S 20 0 32 = 0 then (-4) else if S 20 0 33 = 0 then if S 20 0 27 = 0 then if x1 ≤ A 43 0 ((S 20 0 29).toNatClampNeg) then if x1 ≤ V7_givableOf S A G (S 20 0 28) then if S 20 0 34 = 300 then (-8) else 0 else (-7) else (-6) else if S 20 0 27 = 3 then if x1 ≤ V7_bookOf S A G (S 20 0 28) then if S 20 0 34 = 300 then (-8) else 0 else (-7) else if x1 ≤ x1 then if S 20 0 34 = 300 then (-8) else 0 else (-7) else (-4) else (-2) else if x1 ≤ 0 then if S 20 0 27 = 1 then if V7_in S A G x1 0 1000 = 0 then (-1) else (-1) else if V7_in S A G x1 0 1000 = 0 then (-1) else if 0 ≤ S 20 0 6 then if S 20 0 27 < 0 then (-4) else if S 20 0 27 = 2 then (-4) else if S 20 0 31 = 0 then if S 20 0 33 = 0 then if S 20 0 27 = 0 then if x1 ≤ A 43 0 ((S 20 0 29).toNatClampNeg) then if x1 ≤ V7_givableOf S A G (S 20 0 28) then if S 20 0 34 = 300 then (-8) else 0 else (-7) else (-6) else if S 20 0 27 = 3 then if x1 ≤ V7_bookOf S A G (S 20 0 28) then if S 20 0 34 = 300 then (-8) else 0 else (-7) else if x1 ≤ x1 then if S 20 0 34 = 300 then (-8) else 0 else (-7) else (-4) else if S 20 0 32 = 0 then (-4) else if S 20 0 33 = 0 then if S 20 0 27 = 0 then if x1 ≤ A 43 0 ((S 20 0 29).toNatClampNeg) then if x1 ≤ V7_givableOf S A G (S 20 0 28) then if S 20 0 34 = 300 then (-8) else 0 else (-7) else (-6) else if S 20 0 27 = 3 then if x1 ≤ V7_bookOf S A G (S 20 0 28) then if S 20 0 34 = 300 then (-8) else 0 else (-7) else if x1 ≤ x1 then if S 20 0 34 = 300 then (-8) else 0 else (-7) else (-4) else (-2) else if S 20 0 27 = 1 then if A 35 0 ((S 20 0 28).toNatClampNeg) < 0 then if V7_in S A G x1 0 1000 = 0 then (-1) else if 0 ≤ S 20 0 6 then if S 20 0 31 = 0 then if S 20 0 33 = 0 then if x1 ≤ x1 then if S 20 0 34 = 300 then (-8) else 0 else (-7) else (-4) else if S 20 0 32 = 0 then (-4) else if S 20 0 33 = 0 then if x1 ≤ x1 then if S 20 0 34 = 300 then (-8) else 0 else (-7) else (-4) else (-2) else if A 35 0 ((S 20 0 28).toNatClampNeg) = x2 then if V7_in S A G x1 0 1000 = 0 then (-1) else if 0 ≤ S 20 0 6 then if S 20 0 31 = 0 then if S 20 0 33 = 0 then if x1 ≤ x1 then if S 20 0 34 = 300 then (-8) else 0 else (-7) else (-4) else if S 20 0 32 = 0 then (-4) else if S 20 0 33 = 0 then if x1 ≤ x1 then if S 20 0 34 = 300 then (-8) else 0 else (-7) else (-4) else (-2) else if V7_in S A G x1 0 1000 = 0 then (-1) else (-1) else if V7_in S A G x1 0 1000 = 0 then (-1) else if 0 ≤ S 20 0 6 then if S 20 0 27 < 0 then (-4) else if S 20 0 27 = 2 then (-4) else if S 20 0 31 = 0 then if S 20 0 33 = 0 then if S 20 0 27 = 0 then if x1 ≤ A 43 0 ((S 20 0 29).toNatClampNeg) then if x1 ≤ V7_givableOf S A G (S 20 0 28) then if S 20 0 34 = 300 then (-8) else 0 else (-7) else (-6) else if S 20 0 27 = 3 then if x1 ≤ V7_bookOf S A G (S 20 0 28) then if S 20 0 34 = 300 then (-8) else 0 else (-7) else if x1 ≤ x1 then if S 20 0 34 = 300 then (-8) else 0 else (-7) else (-4) else if S 20 0 32 = 0 then (-4) else if S 20 0 33 = 0 then if S 20 0 27 = 0 then if x1 ≤ A 43 0 ((S 20 0 29).toNatClampNeg) then if x1 ≤ V7_givableOf S A G (S 20 0 28) then if S 20 0 34 = 300 then (-8) else 0 else (-7) else (-6) else if S 20 0 27 = 3 then if x1 ≤ V7_bookOf S A G (S 20 0 28) then if S 20 0 34 = 300 then (-8) else 0 else (-7) else if x1 ≤ x1 then if S 20 0 34 = 300 then (-8) else 0 else (-7) else (-4) else (-2)
set_option maxRecDepth 100000 in
set_option maxHeartbeats 4000000 in
theorem k7_refusal_0 {p : Program} {l : Launch} {e : Env} {s : State} {m : MethodId} {args : Array Value} {below : List Frame} {meth : Method} {c : Code} {D : va_G} {aC : Nat → ClassId} {ad : Nat → Nat → Nat} {X : Nat → Nat → Prop} {S A : sS} {G : sG} (C0 : s_C p s m args meth c b7_refusal 7 R7 (some .int) D aC) (hB : s_B D aC ad X (s_N ad X) S A G s.heap s.heap []) (hX : xR X) (x1 : Int32) (x2 : Int32) (x3 : Int32) (hlo : ∀ i, i < 64 → 0 ≤ (A 36 0 i).toInt ∧ (A 36 0 i).toInt ≤ 6) (hsb : 0 ≤ (S 20 0 28).toInt ∧ (S 20 0 28).toInt < 64) (hso : S 20 0 27 = 0 → 0 ≤ (S 20 0 29).toInt ∧ (S 20 0 29).toInt < 60) {ls : Array Slot} (hl : lv_has ls 7 [(0, .ref (ad 20 0)), (1, .int x1), (2, .int x2), (3, .int x3)]) {o : Int32} (hO : V7_refusal S A G x1 x2 x3 = o) : W p l e (rmk 2) s m args below meth c s.heap [] 0 0 (MQ below (s_Qp o) args s 0 0 (fun _ => False)) (F0 m 0 ls []) := by
  obtain ⟨hx, hb, hml, hown, hw, hK, hr, hlocks⟩ := id C0
  unfold V7_refusal at hO
  refine lv_aload_n hx hb d7_refusal_0 rfl (lv_at hl 0 rfl) ?_
  refine sr_get (v := .int (S 20 0 28)) hx hb hw hown hK hB 28 (hX 20 (by decide)) cf_20 us7 (by decide) fl_7_153 (rfl) d7_refusal_1 ?_
  refine lv_istore (lv' := [(4, .int (S 20 0 28)), (0, .ref (ad 20 0)), (1, .int x1), (2, .int x2), (3, .int x3)]) hx hb d7_refusal_4 hl (by decide) rfl (fun ls hl => ?_)
  refine lv_aload_n hx hb d7_refusal_6 rfl (lv_at hl 1 rfl) ?_
  refine lv_iload_n hx hb d7_refusal_7 rfl (lv_at hl 3 rfl) ?_
  refine sr_vp C0 hB (m7_hasItem hX x2 ) (hX 20 (by decide)) cf_20 ml_7_117 im_7_hasItem se_7_hasItem in_7 cd_7_hasItem hd7_hasItem ⟨⟨rfl, rfl⟩, by decide, by decide⟩ ⟨Nat.zero_le _, Nat.zero_le _⟩ hl.1 rfl (Nat.le_of_ble_eq_true rfl) d7_refusal_8 ?_
  refine lv_if_eq (tgt := 30) hx hb d7_refusal_11 (by decide) (fun c_1 => ?_) (fun c_1 => ?_)
  · refine lv_iconst (v := 0) hx hb d7_refusal_30 (by decide) ?_
    refine lv_istore (lv' := [(5, .int 0), (4, .int (S 20 0 28)), (0, .ref (ad 20 0)), (1, .int x1), (2, .int x2), (3, .int x3)]) hx hb d7_refusal_31 hl (by decide) rfl (fun ls hl => ?_)
    refine lv_aload_n hx hb d7_refusal_33 rfl (lv_at hl 2 rfl) ?_
    refine sr_get (v := .int (S 20 0 27)) hx hb hw hown hK hB 27 (hX 20 (by decide)) cf_20 us7 (by decide) fl_7_81 (rfl) d7_refusal_34 ?_
    refine lv_iconst (v := 1) hx hb d7_refusal_37 (by decide) ?_
    refine lv_icmp_ne (tgt := 74) hx hb d7_refusal_38 (by decide) (fun c_2 => ?_) (fun c_2 => ?_)
    · refine lv_iload_n hx hb d7_refusal_74 rfl (lv_at hl 3 rfl) ?_
      refine lv_iconst (v := 0) hx hb d7_refusal_75 (by decide) ?_
      refine lv_sipush (v := 1000) hx hb d7_refusal_76 (by decide) ?_
      refine sr_sp C0 hB (m7_in hX x1 0 1000 ) ml_7_93 st_7_in in_7 cd_7_in hd7_in ⟨⟨rfl, rfl⟩, by decide, by decide⟩ ⟨Nat.zero_le _, Nat.zero_le _⟩ hl.1 rfl (Nat.le_of_ble_eq_true rfl) d7_refusal_79 ?_
      refine lv_if_eq (tgt := 98) hx hb d7_refusal_82 (by decide) (fun c_3 => ?_) (fun c_3 => ?_)
      · refine lv_iconst (v := (-1)) hx hb d7_refusal_98 (by decide) ?_
        exact se_pi C0 (by rw [if_pos c_1, if_neg c_2, if_pos c_3] at hO; exact hO) d7_refusal_99
      · refine lv_aload_n hx hb d7_refusal_85 rfl (lv_at hl 2 rfl) ?_
        refine sr_get (v := .int (S 20 0 27)) hx hb hw hown hK hB 27 (hX 20 (by decide)) cf_20 us7 (by decide) fl_7_81 (rfl) d7_refusal_86 ?_
        refine lv_iconst (v := 1) hx hb d7_refusal_89 (by decide) ?_
        refine lv_icmp_ne (tgt := 100) hx hb d7_refusal_90 (by decide) (fun _ => ?_) (fun c => absurd c c_2)
        refine lv_aload_n hx hb d7_refusal_100 rfl (lv_at hl 2 rfl) ?_
        refine sr_get (v := .int (S 20 0 6)) hx hb hw hown hK hB 6 (hX 20 (by decide)) cf_20 us7 (by decide) fl_7_26 (rfl) d7_refusal_101 ?_
        refine lv_if_ge (tgt := 110) hx hb d7_refusal_104 (by decide) (fun c_5 => ?_) (fun c_5 => ?_)
        · refine lv_aload_n hx hb d7_refusal_110 rfl (lv_at hl 2 rfl) ?_
          refine sr_get (v := .int (S 20 0 27)) hx hb hw hown hK hB 27 (hX 20 (by decide)) cf_20 us7 (by decide) fl_7_81 (rfl) d7_refusal_111 ?_
          refine lv_if_lt (tgt := 146) hx hb d7_refusal_114 (by decide) (fun c_6 => ?_) (fun c_6 => ?_)
          · refine lv_bipush (v := (-4)) hx hb d7_refusal_146 (by decide) ?_
            exact se_pi C0 (by rw [if_pos c_1, if_neg c_2, if_neg c_3, if_pos c_5, if_pos c_6] at hO; exact hO) d7_refusal_148
          · refine lv_aload_n hx hb d7_refusal_117 rfl (lv_at hl 2 rfl) ?_
            refine sr_get (v := .int (S 20 0 27)) hx hb hw hown hK hB 27 (hX 20 (by decide)) cf_20 us7 (by decide) fl_7_81 (rfl) d7_refusal_118 ?_
            refine lv_iconst (v := 2) hx hb d7_refusal_121 (by decide) ?_
            refine lv_icmp_eq (tgt := 146) hx hb d7_refusal_122 (by decide) (fun c_7 => ?_) (fun c_7 => ?_)
            · refine lv_bipush (v := (-4)) hx hb d7_refusal_146 (by decide) ?_
              exact se_pi C0 (by rw [if_pos c_1, if_neg c_2, if_neg c_3, if_pos c_5, if_neg c_6, if_pos c_7] at hO; exact hO) d7_refusal_148
            · refine lv_aload_n hx hb d7_refusal_125 rfl (lv_at hl 2 rfl) ?_
              refine sr_get (v := .int (S 20 0 31)) hx hb hw hown hK hB 31 (hX 20 (by decide)) cf_20 us7 (by decide) fl_7_159 (rfl) d7_refusal_126 ?_
              refine lv_if_eq (tgt := 139) hx hb d7_refusal_129 (by decide) (fun c_8 => ?_) (fun c_8 => ?_)
              · refine lv_aload_n hx hb d7_refusal_139 rfl (lv_at hl 2 rfl) ?_
                refine sr_get (v := .int (S 20 0 33)) hx hb hw hown hK hB 33 (hX 20 (by decide)) cf_20 us7 (by decide) fl_7_166 (rfl) d7_refusal_140 ?_
                refine lv_if_eq (tgt := 149) hx hb d7_refusal_143 (by decide) (fun c_9 => ?_) (fun c_9 => ?_)
                · refine lv_aload_n hx hb d7_refusal_149 rfl (lv_at hl 2 rfl) ?_
                  refine sr_get (v := .int (S 20 0 27)) hx hb hw hown hK hB 27 (hX 20 (by decide)) cf_20 us7 (by decide) fl_7_81 (rfl) d7_refusal_150 ?_
                  refine lv_if_ne (tgt := 172) hx hb d7_refusal_153 (by decide) (fun c_10 => ?_) (fun c_10 => ?_)
                  · refine lv_aload_n hx hb d7_refusal_172 rfl (lv_at hl 2 rfl) ?_
                    refine sr_get (v := .int (S 20 0 27)) hx hb hw hown hK hB 27 (hX 20 (by decide)) cf_20 us7 (by decide) fl_7_81 (rfl) d7_refusal_173 ?_
                    refine lv_if_ne (tgt := 188) hx hb d7_refusal_176 (by decide) (fun _ => ?_) (fun c => absurd c c_10)
                    refine lv_aload_n hx hb d7_refusal_188 rfl (lv_at hl 2 rfl) ?_
                    refine sr_get (v := .int (S 20 0 27)) hx hb hw hown hK hB 27 (hX 20 (by decide)) cf_20 us7 (by decide) fl_7_81 (rfl) d7_refusal_189 ?_
                    refine lv_iconst (v := 3) hx hb d7_refusal_192 (by decide) ?_
                    refine lv_icmp_ne (tgt := 205) hx hb d7_refusal_193 (by decide) (fun c_12 => ?_) (fun c_12 => ?_)
                    · refine lv_iload_n hx hb d7_refusal_205 rfl (lv_at hl 3 rfl) ?_
                      refine lv_istore (lv' := [(6, .int x1), (5, .int 0), (4, .int (S 20 0 28)), (0, .ref (ad 20 0)), (1, .int x1), (2, .int x2), (3, .int x3)]) hx hb d7_refusal_206 hl (by decide) rfl (fun ls hl => ?_)
                      refine lv_iload_n hx hb d7_refusal_208 rfl (lv_at hl 4 rfl) ?_
                      refine lv_iload hx hb d7_refusal_209 (lv_at hl 0 rfl) ?_
                      refine lv_icmp_le (tgt := 219) hx hb d7_refusal_211 (by decide) (fun c_13 => ?_) (fun c_13 => ?_)
                      · refine lv_aload_n hx hb d7_refusal_219 rfl (lv_at hl 3 rfl) ?_
                        refine sr_get (v := .int (S 20 0 34)) hx hb hw hown hK hB 34 (hX 20 (by decide)) cf_20 us7 (by decide) fl_7_130 (rfl) d7_refusal_220 ?_
                        refine lv_sipush (v := 300) hx hb d7_refusal_223 (by decide) ?_
                        refine lv_icmp_ne (tgt := 234) hx hb d7_refusal_226 (by decide) (fun c_14 => ?_) (fun c_14 => ?_)
                        · refine lv_iconst (v := 0) hx hb d7_refusal_234 (by decide) ?_
                          exact se_pi C0 (by rw [if_pos c_1, if_neg c_2, if_neg c_3, if_pos c_5, if_neg c_6, if_neg c_7, if_pos c_8, if_pos c_9, if_neg c_10, if_neg c_12, if_pos c_13, if_neg c_14] at hO; exact hO) d7_refusal_235
                        · refine lv_bipush (v := (-8)) hx hb d7_refusal_229 (by decide) ?_
                          refine lv_goto (tgt := 235) hx hb d7_refusal_231 (by decide) ?_
                          exact se_pi C0 (by rw [if_pos c_1, if_neg c_2, if_neg c_3, if_pos c_5, if_neg c_6, if_neg c_7, if_pos c_8, if_pos c_9, if_neg c_10, if_neg c_12, if_pos c_13, if_pos c_14] at hO; exact hO) d7_refusal_235
                      · refine lv_bipush (v := (-7)) hx hb d7_refusal_214 (by decide) ?_
                        refine lv_goto (tgt := 235) hx hb d7_refusal_216 (by decide) ?_
                        exact se_pi C0 (by rw [if_pos c_1, if_neg c_2, if_neg c_3, if_pos c_5, if_neg c_6, if_neg c_7, if_pos c_8, if_pos c_9, if_neg c_10, if_neg c_12, if_neg c_13] at hO; exact hO) d7_refusal_235
                    · refine lv_aload_n hx hb d7_refusal_196 rfl (lv_at hl 2 rfl) ?_
                      refine lv_iload hx hb d7_refusal_197 (lv_at hl 1 rfl) ?_
                      refine sr_vp C0 hB (m7_bookOf hX (S 20 0 28) (by (have kc_3 := in_t c_3); (have l0 : (0 : Int32).toInt = 0 := rfl); (have l1000 : (1000 : Int32).toInt = 1000 := rfl);  first | assumption | omega) (by (have kc_3 := in_t c_3); (have l0 : (0 : Int32).toInt = 0 := rfl); (have l1000 : (1000 : Int32).toInt = 1000 := rfl);  first | assumption | omega)) (hX 20 (by decide)) cf_20 ml_7_169 im_7_bookOf se_7_bookOf in_7 cd_7_bookOf hd7_bookOf ⟨⟨rfl, rfl⟩, by decide, by decide⟩ ⟨Nat.zero_le _, Nat.zero_le _⟩ hl.1 rfl (Nat.le_of_ble_eq_true rfl) d7_refusal_199 ?_
                      refine lv_goto (tgt := 206) hx hb d7_refusal_202 (by decide) ?_
                      refine lv_istore (lv' := [(6, .int (V7_bookOf S A G (S 20 0 28))), (5, .int 0), (4, .int (S 20 0 28)), (0, .ref (ad 20 0)), (1, .int x1), (2, .int x2), (3, .int x3)]) hx hb d7_refusal_206 hl (by decide) rfl (fun ls hl => ?_)
                      refine lv_iload_n hx hb d7_refusal_208 rfl (lv_at hl 4 rfl) ?_
                      refine lv_iload hx hb d7_refusal_209 (lv_at hl 0 rfl) ?_
                      refine lv_icmp_le (tgt := 219) hx hb d7_refusal_211 (by decide) (fun c_15 => ?_) (fun c_15 => ?_)
                      · refine lv_aload_n hx hb d7_refusal_219 rfl (lv_at hl 3 rfl) ?_
                        refine sr_get (v := .int (S 20 0 34)) hx hb hw hown hK hB 34 (hX 20 (by decide)) cf_20 us7 (by decide) fl_7_130 (rfl) d7_refusal_220 ?_
                        refine lv_sipush (v := 300) hx hb d7_refusal_223 (by decide) ?_
                        refine lv_icmp_ne (tgt := 234) hx hb d7_refusal_226 (by decide) (fun c_16 => ?_) (fun c_16 => ?_)
                        · refine lv_iconst (v := 0) hx hb d7_refusal_234 (by decide) ?_
                          exact se_pi C0 (by rw [if_pos c_1, if_neg c_2, if_neg c_3, if_pos c_5, if_neg c_6, if_neg c_7, if_pos c_8, if_pos c_9, if_neg c_10, if_pos c_12, if_pos c_15, if_neg c_16] at hO; exact hO) d7_refusal_235
                        · refine lv_bipush (v := (-8)) hx hb d7_refusal_229 (by decide) ?_
                          refine lv_goto (tgt := 235) hx hb d7_refusal_231 (by decide) ?_
                          exact se_pi C0 (by rw [if_pos c_1, if_neg c_2, if_neg c_3, if_pos c_5, if_neg c_6, if_neg c_7, if_pos c_8, if_pos c_9, if_neg c_10, if_pos c_12, if_pos c_15, if_pos c_16] at hO; exact hO) d7_refusal_235
                      · refine lv_bipush (v := (-7)) hx hb d7_refusal_214 (by decide) ?_
                        refine lv_goto (tgt := 235) hx hb d7_refusal_216 (by decide) ?_
                        exact se_pi C0 (by rw [if_pos c_1, if_neg c_2, if_neg c_3, if_pos c_5, if_neg c_6, if_neg c_7, if_pos c_8, if_pos c_9, if_neg c_10, if_pos c_12, if_neg c_15] at hO; exact hO) d7_refusal_235
                  · refine lv_iload_n hx hb d7_refusal_156 rfl (lv_at hl 3 rfl) ?_
                    refine lv_aload_n hx hb d7_refusal_157 rfl (lv_at hl 2 rfl) ?_
                    refine sr_get (v := .ref (ad 43 0)) hx hb hw hown hK hB 22 (hX 20 (by decide)) cf_20 us7 (by decide) fl_7_66 (rfl) d7_refusal_158 ?_
                    refine lv_aload_n hx hb d7_refusal_161 rfl (lv_at hl 2 rfl) ?_
                    refine sr_get (v := .int (S 20 0 29)) hx hb hw hown hK hB 29 (hX 20 (by decide)) cf_20 us7 (by decide) fl_7_124 (rfl) d7_refusal_162 ?_
                    refine sr_iald (v := A 43 0 ((S 20 0 29).toNatClampNeg)) hx hb hK hB (hX 43 (by decide)) rfl rfl (by (refine vp_in_iff.mpr ?_); (show 0 ≤ (S 20 0 29).toInt ∧ (S 20 0 29).toInt < ((60 : Nat) : Int)); (have qs := hso (by assumption));  omega) d7_refusal_165 (rfl) ?_
                    refine lv_icmp_le (tgt := 172) hx hb d7_refusal_166 (by decide) (fun c_17 => ?_) (fun c_17 => ?_)
                    · refine lv_aload_n hx hb d7_refusal_172 rfl (lv_at hl 2 rfl) ?_
                      refine sr_get (v := .int (S 20 0 27)) hx hb hw hown hK hB 27 (hX 20 (by decide)) cf_20 us7 (by decide) fl_7_81 (rfl) d7_refusal_173 ?_
                      refine lv_if_ne (tgt := 188) hx hb d7_refusal_176 (by decide) (fun c => absurd c_10 c) (fun _ => ?_)
                      refine lv_aload_n hx hb d7_refusal_179 rfl (lv_at hl 2 rfl) ?_
                      refine lv_iload hx hb d7_refusal_180 (lv_at hl 1 rfl) ?_
                      refine sr_vp C0 hB (m7_givableOf hX (S 20 0 28) (by (have kc_3 := in_t c_3); (have l0 : (0 : Int32).toInt = 0 := rfl); (have l1000 : (1000 : Int32).toInt = 1000 := rfl);  first | assumption | omega) (by (have kc_3 := in_t c_3); (have l0 : (0 : Int32).toInt = 0 := rfl); (have l1000 : (1000 : Int32).toInt = 1000 := rfl);  first | assumption | omega)) (hX 20 (by decide)) cf_20 ml_7_133 im_7_givableOf se_7_givableOf in_7 cd_7_givableOf hd7_givableOf ⟨⟨rfl, rfl⟩, by decide, by decide⟩ ⟨Nat.zero_le _, Nat.zero_le _⟩ hl.1 rfl (Nat.le_of_ble_eq_true rfl) d7_refusal_182 ?_
                      refine lv_goto (tgt := 206) hx hb d7_refusal_185 (by decide) ?_
                      refine lv_istore (lv' := [(6, .int (V7_givableOf S A G (S 20 0 28))), (5, .int 0), (4, .int (S 20 0 28)), (0, .ref (ad 20 0)), (1, .int x1), (2, .int x2), (3, .int x3)]) hx hb d7_refusal_206 hl (by decide) rfl (fun ls hl => ?_)
                      refine lv_iload_n hx hb d7_refusal_208 rfl (lv_at hl 4 rfl) ?_
                      refine lv_iload hx hb d7_refusal_209 (lv_at hl 0 rfl) ?_
                      refine lv_icmp_le (tgt := 219) hx hb d7_refusal_211 (by decide) (fun c_19 => ?_) (fun c_19 => ?_)
                      · refine lv_aload_n hx hb d7_refusal_219 rfl (lv_at hl 3 rfl) ?_
                        refine sr_get (v := .int (S 20 0 34)) hx hb hw hown hK hB 34 (hX 20 (by decide)) cf_20 us7 (by decide) fl_7_130 (rfl) d7_refusal_220 ?_
                        refine lv_sipush (v := 300) hx hb d7_refusal_223 (by decide) ?_
                        refine lv_icmp_ne (tgt := 234) hx hb d7_refusal_226 (by decide) (fun c_20 => ?_) (fun c_20 => ?_)
                        · refine lv_iconst (v := 0) hx hb d7_refusal_234 (by decide) ?_
                          exact se_pi C0 (by rw [if_pos c_1, if_neg c_2, if_neg c_3, if_pos c_5, if_neg c_6, if_neg c_7, if_pos c_8, if_pos c_9, if_pos c_10, if_pos c_17, if_pos c_19, if_neg c_20] at hO; exact hO) d7_refusal_235
                        · refine lv_bipush (v := (-8)) hx hb d7_refusal_229 (by decide) ?_
                          refine lv_goto (tgt := 235) hx hb d7_refusal_231 (by decide) ?_
                          exact se_pi C0 (by rw [if_pos c_1, if_neg c_2, if_neg c_3, if_pos c_5, if_neg c_6, if_neg c_7, if_pos c_8, if_pos c_9, if_pos c_10, if_pos c_17, if_pos c_19, if_pos c_20] at hO; exact hO) d7_refusal_235
                      · refine lv_bipush (v := (-7)) hx hb d7_refusal_214 (by decide) ?_
                        refine lv_goto (tgt := 235) hx hb d7_refusal_216 (by decide) ?_
                        exact se_pi C0 (by rw [if_pos c_1, if_neg c_2, if_neg c_3, if_pos c_5, if_neg c_6, if_neg c_7, if_pos c_8, if_pos c_9, if_pos c_10, if_pos c_17, if_neg c_19] at hO; exact hO) d7_refusal_235
                    · refine lv_bipush (v := (-6)) hx hb d7_refusal_169 (by decide) ?_
                      exact se_pi C0 (by rw [if_pos c_1, if_neg c_2, if_neg c_3, if_pos c_5, if_neg c_6, if_neg c_7, if_pos c_8, if_pos c_9, if_pos c_10, if_neg c_17] at hO; exact hO) d7_refusal_171
                · refine lv_bipush (v := (-4)) hx hb d7_refusal_146 (by decide) ?_
                  exact se_pi C0 (by rw [if_pos c_1, if_neg c_2, if_neg c_3, if_pos c_5, if_neg c_6, if_neg c_7, if_pos c_8, if_neg c_9] at hO; exact hO) d7_refusal_148
              · refine lv_aload_n hx hb d7_refusal_132 rfl (lv_at hl 2 rfl) ?_
                refine sr_get (v := .int (S 20 0 32)) hx hb hw hown hK hB 32 (hX 20 (by decide)) cf_20 us7 (by decide) fl_7_163 (rfl) d7_refusal_133 ?_
                refine lv_if_eq (tgt := 146) hx hb d7_refusal_136 (by decide) (fun c_21 => ?_) (fun c_21 => ?_)
                · refine lv_bipush (v := (-4)) hx hb d7_refusal_146 (by decide) ?_
                  exact se_pi C0 (by rw [if_pos c_1, if_neg c_2, if_neg c_3, if_pos c_5, if_neg c_6, if_neg c_7, if_neg c_8, if_pos c_21] at hO; exact hO) d7_refusal_148
                · refine lv_aload_n hx hb d7_refusal_139 rfl (lv_at hl 2 rfl) ?_
                  refine sr_get (v := .int (S 20 0 33)) hx hb hw hown hK hB 33 (hX 20 (by decide)) cf_20 us7 (by decide) fl_7_166 (rfl) d7_refusal_140 ?_
                  refine lv_if_eq (tgt := 149) hx hb d7_refusal_143 (by decide) (fun c_22 => ?_) (fun c_22 => ?_)
                  · refine lv_aload_n hx hb d7_refusal_149 rfl (lv_at hl 2 rfl) ?_
                    refine sr_get (v := .int (S 20 0 27)) hx hb hw hown hK hB 27 (hX 20 (by decide)) cf_20 us7 (by decide) fl_7_81 (rfl) d7_refusal_150 ?_
                    refine lv_if_ne (tgt := 172) hx hb d7_refusal_153 (by decide) (fun c_23 => ?_) (fun c_23 => ?_)
                    · refine lv_aload_n hx hb d7_refusal_172 rfl (lv_at hl 2 rfl) ?_
                      refine sr_get (v := .int (S 20 0 27)) hx hb hw hown hK hB 27 (hX 20 (by decide)) cf_20 us7 (by decide) fl_7_81 (rfl) d7_refusal_173 ?_
                      refine lv_if_ne (tgt := 188) hx hb d7_refusal_176 (by decide) (fun _ => ?_) (fun c => absurd c c_23)
                      refine lv_aload_n hx hb d7_refusal_188 rfl (lv_at hl 2 rfl) ?_
                      refine sr_get (v := .int (S 20 0 27)) hx hb hw hown hK hB 27 (hX 20 (by decide)) cf_20 us7 (by decide) fl_7_81 (rfl) d7_refusal_189 ?_
                      refine lv_iconst (v := 3) hx hb d7_refusal_192 (by decide) ?_
                      refine lv_icmp_ne (tgt := 205) hx hb d7_refusal_193 (by decide) (fun c_25 => ?_) (fun c_25 => ?_)
                      · refine lv_iload_n hx hb d7_refusal_205 rfl (lv_at hl 3 rfl) ?_
                        refine lv_istore (lv' := [(6, .int x1), (5, .int 0), (4, .int (S 20 0 28)), (0, .ref (ad 20 0)), (1, .int x1), (2, .int x2), (3, .int x3)]) hx hb d7_refusal_206 hl (by decide) rfl (fun ls hl => ?_)
                        refine lv_iload_n hx hb d7_refusal_208 rfl (lv_at hl 4 rfl) ?_
                        refine lv_iload hx hb d7_refusal_209 (lv_at hl 0 rfl) ?_
                        refine lv_icmp_le (tgt := 219) hx hb d7_refusal_211 (by decide) (fun c_26 => ?_) (fun c_26 => ?_)
                        · refine lv_aload_n hx hb d7_refusal_219 rfl (lv_at hl 3 rfl) ?_
                          refine sr_get (v := .int (S 20 0 34)) hx hb hw hown hK hB 34 (hX 20 (by decide)) cf_20 us7 (by decide) fl_7_130 (rfl) d7_refusal_220 ?_
                          refine lv_sipush (v := 300) hx hb d7_refusal_223 (by decide) ?_
                          refine lv_icmp_ne (tgt := 234) hx hb d7_refusal_226 (by decide) (fun c_27 => ?_) (fun c_27 => ?_)
                          · refine lv_iconst (v := 0) hx hb d7_refusal_234 (by decide) ?_
                            exact se_pi C0 (by rw [if_pos c_1, if_neg c_2, if_neg c_3, if_pos c_5, if_neg c_6, if_neg c_7, if_neg c_8, if_neg c_21, if_pos c_22, if_neg c_23, if_neg c_25, if_pos c_26, if_neg c_27] at hO; exact hO) d7_refusal_235
                          · refine lv_bipush (v := (-8)) hx hb d7_refusal_229 (by decide) ?_
                            refine lv_goto (tgt := 235) hx hb d7_refusal_231 (by decide) ?_
                            exact se_pi C0 (by rw [if_pos c_1, if_neg c_2, if_neg c_3, if_pos c_5, if_neg c_6, if_neg c_7, if_neg c_8, if_neg c_21, if_pos c_22, if_neg c_23, if_neg c_25, if_pos c_26, if_pos c_27] at hO; exact hO) d7_refusal_235
                        · refine lv_bipush (v := (-7)) hx hb d7_refusal_214 (by decide) ?_
                          refine lv_goto (tgt := 235) hx hb d7_refusal_216 (by decide) ?_
                          exact se_pi C0 (by rw [if_pos c_1, if_neg c_2, if_neg c_3, if_pos c_5, if_neg c_6, if_neg c_7, if_neg c_8, if_neg c_21, if_pos c_22, if_neg c_23, if_neg c_25, if_neg c_26] at hO; exact hO) d7_refusal_235
                      · refine lv_aload_n hx hb d7_refusal_196 rfl (lv_at hl 2 rfl) ?_
                        refine lv_iload hx hb d7_refusal_197 (lv_at hl 1 rfl) ?_
                        refine sr_vp C0 hB (m7_bookOf hX (S 20 0 28) (by (have kc_3 := in_t c_3); (have l0 : (0 : Int32).toInt = 0 := rfl); (have l1000 : (1000 : Int32).toInt = 1000 := rfl);  first | assumption | omega) (by (have kc_3 := in_t c_3); (have l0 : (0 : Int32).toInt = 0 := rfl); (have l1000 : (1000 : Int32).toInt = 1000 := rfl);  first | assumption | omega)) (hX 20 (by decide)) cf_20 ml_7_169 im_7_bookOf se_7_bookOf in_7 cd_7_bookOf hd7_bookOf ⟨⟨rfl, rfl⟩, by decide, by decide⟩ ⟨Nat.zero_le _, Nat.zero_le _⟩ hl.1 rfl (Nat.le_of_ble_eq_true rfl) d7_refusal_199 ?_
                        refine lv_goto (tgt := 206) hx hb d7_refusal_202 (by decide) ?_
                        refine lv_istore (lv' := [(6, .int (V7_bookOf S A G (S 20 0 28))), (5, .int 0), (4, .int (S 20 0 28)), (0, .ref (ad 20 0)), (1, .int x1), (2, .int x2), (3, .int x3)]) hx hb d7_refusal_206 hl (by decide) rfl (fun ls hl => ?_)
                        refine lv_iload_n hx hb d7_refusal_208 rfl (lv_at hl 4 rfl) ?_
                        refine lv_iload hx hb d7_refusal_209 (lv_at hl 0 rfl) ?_
                        refine lv_icmp_le (tgt := 219) hx hb d7_refusal_211 (by decide) (fun c_28 => ?_) (fun c_28 => ?_)
                        · refine lv_aload_n hx hb d7_refusal_219 rfl (lv_at hl 3 rfl) ?_
                          refine sr_get (v := .int (S 20 0 34)) hx hb hw hown hK hB 34 (hX 20 (by decide)) cf_20 us7 (by decide) fl_7_130 (rfl) d7_refusal_220 ?_
                          refine lv_sipush (v := 300) hx hb d7_refusal_223 (by decide) ?_
                          refine lv_icmp_ne (tgt := 234) hx hb d7_refusal_226 (by decide) (fun c_29 => ?_) (fun c_29 => ?_)
                          · refine lv_iconst (v := 0) hx hb d7_refusal_234 (by decide) ?_
                            exact se_pi C0 (by rw [if_pos c_1, if_neg c_2, if_neg c_3, if_pos c_5, if_neg c_6, if_neg c_7, if_neg c_8, if_neg c_21, if_pos c_22, if_neg c_23, if_pos c_25, if_pos c_28, if_neg c_29] at hO; exact hO) d7_refusal_235
                          · refine lv_bipush (v := (-8)) hx hb d7_refusal_229 (by decide) ?_
                            refine lv_goto (tgt := 235) hx hb d7_refusal_231 (by decide) ?_
                            exact se_pi C0 (by rw [if_pos c_1, if_neg c_2, if_neg c_3, if_pos c_5, if_neg c_6, if_neg c_7, if_neg c_8, if_neg c_21, if_pos c_22, if_neg c_23, if_pos c_25, if_pos c_28, if_pos c_29] at hO; exact hO) d7_refusal_235
                        · refine lv_bipush (v := (-7)) hx hb d7_refusal_214 (by decide) ?_
                          refine lv_goto (tgt := 235) hx hb d7_refusal_216 (by decide) ?_
                          exact se_pi C0 (by rw [if_pos c_1, if_neg c_2, if_neg c_3, if_pos c_5, if_neg c_6, if_neg c_7, if_neg c_8, if_neg c_21, if_pos c_22, if_neg c_23, if_pos c_25, if_neg c_28] at hO; exact hO) d7_refusal_235
                    · refine lv_iload_n hx hb d7_refusal_156 rfl (lv_at hl 3 rfl) ?_
                      refine lv_aload_n hx hb d7_refusal_157 rfl (lv_at hl 2 rfl) ?_
                      refine sr_get (v := .ref (ad 43 0)) hx hb hw hown hK hB 22 (hX 20 (by decide)) cf_20 us7 (by decide) fl_7_66 (rfl) d7_refusal_158 ?_
                      refine lv_aload_n hx hb d7_refusal_161 rfl (lv_at hl 2 rfl) ?_
                      refine sr_get (v := .int (S 20 0 29)) hx hb hw hown hK hB 29 (hX 20 (by decide)) cf_20 us7 (by decide) fl_7_124 (rfl) d7_refusal_162 ?_
                      refine sr_iald (v := A 43 0 ((S 20 0 29).toNatClampNeg)) hx hb hK hB (hX 43 (by decide)) rfl rfl (by (refine vp_in_iff.mpr ?_); (show 0 ≤ (S 20 0 29).toInt ∧ (S 20 0 29).toInt < ((60 : Nat) : Int)); (have qs := hso (by assumption));  omega) d7_refusal_165 (rfl) ?_
                      refine lv_icmp_le (tgt := 172) hx hb d7_refusal_166 (by decide) (fun c_30 => ?_) (fun c_30 => ?_)
                      · refine lv_aload_n hx hb d7_refusal_172 rfl (lv_at hl 2 rfl) ?_
                        refine sr_get (v := .int (S 20 0 27)) hx hb hw hown hK hB 27 (hX 20 (by decide)) cf_20 us7 (by decide) fl_7_81 (rfl) d7_refusal_173 ?_
                        refine lv_if_ne (tgt := 188) hx hb d7_refusal_176 (by decide) (fun c => absurd c_23 c) (fun _ => ?_)
                        refine lv_aload_n hx hb d7_refusal_179 rfl (lv_at hl 2 rfl) ?_
                        refine lv_iload hx hb d7_refusal_180 (lv_at hl 1 rfl) ?_
                        refine sr_vp C0 hB (m7_givableOf hX (S 20 0 28) (by (have kc_3 := in_t c_3); (have l0 : (0 : Int32).toInt = 0 := rfl); (have l1000 : (1000 : Int32).toInt = 1000 := rfl);  first | assumption | omega) (by (have kc_3 := in_t c_3); (have l0 : (0 : Int32).toInt = 0 := rfl); (have l1000 : (1000 : Int32).toInt = 1000 := rfl);  first | assumption | omega)) (hX 20 (by decide)) cf_20 ml_7_133 im_7_givableOf se_7_givableOf in_7 cd_7_givableOf hd7_givableOf ⟨⟨rfl, rfl⟩, by decide, by decide⟩ ⟨Nat.zero_le _, Nat.zero_le _⟩ hl.1 rfl (Nat.le_of_ble_eq_true rfl) d7_refusal_182 ?_
                        refine lv_goto (tgt := 206) hx hb d7_refusal_185 (by decide) ?_
                        refine lv_istore (lv' := [(6, .int (V7_givableOf S A G (S 20 0 28))), (5, .int 0), (4, .int (S 20 0 28)), (0, .ref (ad 20 0)), (1, .int x1), (2, .int x2), (3, .int x3)]) hx hb d7_refusal_206 hl (by decide) rfl (fun ls hl => ?_)
                        refine lv_iload_n hx hb d7_refusal_208 rfl (lv_at hl 4 rfl) ?_
                        refine lv_iload hx hb d7_refusal_209 (lv_at hl 0 rfl) ?_
                        refine lv_icmp_le (tgt := 219) hx hb d7_refusal_211 (by decide) (fun c_32 => ?_) (fun c_32 => ?_)
                        · refine lv_aload_n hx hb d7_refusal_219 rfl (lv_at hl 3 rfl) ?_
                          refine sr_get (v := .int (S 20 0 34)) hx hb hw hown hK hB 34 (hX 20 (by decide)) cf_20 us7 (by decide) fl_7_130 (rfl) d7_refusal_220 ?_
                          refine lv_sipush (v := 300) hx hb d7_refusal_223 (by decide) ?_
                          refine lv_icmp_ne (tgt := 234) hx hb d7_refusal_226 (by decide) (fun c_33 => ?_) (fun c_33 => ?_)
                          · refine lv_iconst (v := 0) hx hb d7_refusal_234 (by decide) ?_
                            exact se_pi C0 (by rw [if_pos c_1, if_neg c_2, if_neg c_3, if_pos c_5, if_neg c_6, if_neg c_7, if_neg c_8, if_neg c_21, if_pos c_22, if_pos c_23, if_pos c_30, if_pos c_32, if_neg c_33] at hO; exact hO) d7_refusal_235
                          · refine lv_bipush (v := (-8)) hx hb d7_refusal_229 (by decide) ?_
                            refine lv_goto (tgt := 235) hx hb d7_refusal_231 (by decide) ?_
                            exact se_pi C0 (by rw [if_pos c_1, if_neg c_2, if_neg c_3, if_pos c_5, if_neg c_6, if_neg c_7, if_neg c_8, if_neg c_21, if_pos c_22, if_pos c_23, if_pos c_30, if_pos c_32, if_pos c_33] at hO; exact hO) d7_refusal_235
                        · refine lv_bipush (v := (-7)) hx hb d7_refusal_214 (by decide) ?_
                          refine lv_goto (tgt := 235) hx hb d7_refusal_216 (by decide) ?_
                          exact se_pi C0 (by rw [if_pos c_1, if_neg c_2, if_neg c_3, if_pos c_5, if_neg c_6, if_neg c_7, if_neg c_8, if_neg c_21, if_pos c_22, if_pos c_23, if_pos c_30, if_neg c_32] at hO; exact hO) d7_refusal_235
                      · refine lv_bipush (v := (-6)) hx hb d7_refusal_169 (by decide) ?_
                        exact se_pi C0 (by rw [if_pos c_1, if_neg c_2, if_neg c_3, if_pos c_5, if_neg c_6, if_neg c_7, if_neg c_8, if_neg c_21, if_pos c_22, if_pos c_23, if_neg c_30] at hO; exact hO) d7_refusal_171
                  · refine lv_bipush (v := (-4)) hx hb d7_refusal_146 (by decide) ?_
                    exact se_pi C0 (by rw [if_pos c_1, if_neg c_2, if_neg c_3, if_pos c_5, if_neg c_6, if_neg c_7, if_neg c_8, if_neg c_21, if_neg c_22] at hO; exact hO) d7_refusal_148
        · refine lv_bipush (v := (-2)) hx hb d7_refusal_107 (by decide) ?_
          exact se_pi C0 (by rw [if_pos c_1, if_neg c_2, if_neg c_3, if_neg c_5] at hO; exact hO) d7_refusal_109
    · refine lv_iload hx hb d7_refusal_41 (lv_at hl 0 rfl) ?_
      refine lv_if_eq (tgt := 71) hx hb d7_refusal_43 (by decide) (fun _ => ?_) (fun c => absurd (by decide) c)
      refine lv_iconst (v := 0) hx hb d7_refusal_71 (by decide) ?_
      refine lv_istore (lv' := [(5, .int 0), (4, .int (S 20 0 28)), (0, .ref (ad 20 0)), (1, .int x1), (2, .int x2), (3, .int x3)]) hx hb d7_refusal_72 hl (by decide) rfl (fun ls hl => ?_)
      refine lv_iload_n hx hb d7_refusal_74 rfl (lv_at hl 3 rfl) ?_
      refine lv_iconst (v := 0) hx hb d7_refusal_75 (by decide) ?_
      refine lv_sipush (v := 1000) hx hb d7_refusal_76 (by decide) ?_
      refine sr_sp C0 hB (m7_in hX x1 0 1000 ) ml_7_93 st_7_in in_7 cd_7_in hd7_in ⟨⟨rfl, rfl⟩, by decide, by decide⟩ ⟨Nat.zero_le _, Nat.zero_le _⟩ hl.1 rfl (Nat.le_of_ble_eq_true rfl) d7_refusal_79 ?_
      refine lv_if_eq (tgt := 98) hx hb d7_refusal_82 (by decide) (fun c_35 => ?_) (fun c_35 => ?_)
      · refine lv_iconst (v := (-1)) hx hb d7_refusal_98 (by decide) ?_
        exact se_pi C0 (by rw [if_pos c_1, if_pos c_2, if_pos c_35] at hO; exact hO) d7_refusal_99
      · refine lv_aload_n hx hb d7_refusal_85 rfl (lv_at hl 2 rfl) ?_
        refine sr_get (v := .int (S 20 0 27)) hx hb hw hown hK hB 27 (hX 20 (by decide)) cf_20 us7 (by decide) fl_7_81 (rfl) d7_refusal_86 ?_
        refine lv_iconst (v := 1) hx hb d7_refusal_89 (by decide) ?_
        refine lv_icmp_ne (tgt := 100) hx hb d7_refusal_90 (by decide) (fun c => absurd c_2 c) (fun _ => ?_)
        refine lv_iload hx hb d7_refusal_93 (lv_at hl 0 rfl) ?_
        refine lv_if_ne (tgt := 100) hx hb d7_refusal_95 (by decide) (fun c => absurd (by decide) c) (fun _ => ?_)
        refine lv_iconst (v := (-1)) hx hb d7_refusal_98 (by decide) ?_
        exact se_pi C0 (by rw [if_pos c_1, if_pos c_2, if_neg c_35] at hO; exact hO) d7_refusal_99
  · refine lv_iload_n hx hb d7_refusal_14 rfl (lv_at hl 4 rfl) ?_
    refine lv_aload_n hx hb d7_refusal_15 rfl (lv_at hl 1 rfl) ?_
    refine sr_get (v := .int (S 20 0 0)) hx hb hw hown hK hB 0 (hX 20 (by decide)) cf_20 us7 (by decide) fl_7_100 (rfl) d7_refusal_16 ?_
    refine lv_icmp_le (tgt := 30) hx hb d7_refusal_19 (by decide) (fun c_38 => ?_) (fun c_38 => ?_)
    · refine lv_iconst (v := 0) hx hb d7_refusal_30 (by decide) ?_
      refine lv_istore (lv' := [(5, .int 0), (4, .int (S 20 0 28)), (0, .ref (ad 20 0)), (1, .int x1), (2, .int x2), (3, .int x3)]) hx hb d7_refusal_31 hl (by decide) rfl (fun ls hl => ?_)
      refine lv_aload_n hx hb d7_refusal_33 rfl (lv_at hl 2 rfl) ?_
      refine sr_get (v := .int (S 20 0 27)) hx hb hw hown hK hB 27 (hX 20 (by decide)) cf_20 us7 (by decide) fl_7_81 (rfl) d7_refusal_34 ?_
      refine lv_iconst (v := 1) hx hb d7_refusal_37 (by decide) ?_
      refine lv_icmp_ne (tgt := 74) hx hb d7_refusal_38 (by decide) (fun c_39 => ?_) (fun c_39 => ?_)
      · refine lv_iload_n hx hb d7_refusal_74 rfl (lv_at hl 3 rfl) ?_
        refine lv_iconst (v := 0) hx hb d7_refusal_75 (by decide) ?_
        refine lv_sipush (v := 1000) hx hb d7_refusal_76 (by decide) ?_
        refine sr_sp C0 hB (m7_in hX x1 0 1000 ) ml_7_93 st_7_in in_7 cd_7_in hd7_in ⟨⟨rfl, rfl⟩, by decide, by decide⟩ ⟨Nat.zero_le _, Nat.zero_le _⟩ hl.1 rfl (Nat.le_of_ble_eq_true rfl) d7_refusal_79 ?_
        refine lv_if_eq (tgt := 98) hx hb d7_refusal_82 (by decide) (fun c_40 => ?_) (fun c_40 => ?_)
        · refine lv_iconst (v := (-1)) hx hb d7_refusal_98 (by decide) ?_
          exact se_pi C0 (by rw [if_neg c_1, if_pos c_38, if_neg c_39, if_pos c_40] at hO; exact hO) d7_refusal_99
        · refine lv_aload_n hx hb d7_refusal_85 rfl (lv_at hl 2 rfl) ?_
          refine sr_get (v := .int (S 20 0 27)) hx hb hw hown hK hB 27 (hX 20 (by decide)) cf_20 us7 (by decide) fl_7_81 (rfl) d7_refusal_86 ?_
          refine lv_iconst (v := 1) hx hb d7_refusal_89 (by decide) ?_
          refine lv_icmp_ne (tgt := 100) hx hb d7_refusal_90 (by decide) (fun _ => ?_) (fun c => absurd c c_39)
          refine lv_aload_n hx hb d7_refusal_100 rfl (lv_at hl 2 rfl) ?_
          refine sr_get (v := .int (S 20 0 6)) hx hb hw hown hK hB 6 (hX 20 (by decide)) cf_20 us7 (by decide) fl_7_26 (rfl) d7_refusal_101 ?_
          refine lv_if_ge (tgt := 110) hx hb d7_refusal_104 (by decide) (fun c_42 => ?_) (fun c_42 => ?_)
          · refine lv_aload_n hx hb d7_refusal_110 rfl (lv_at hl 2 rfl) ?_
            refine sr_get (v := .int (S 20 0 27)) hx hb hw hown hK hB 27 (hX 20 (by decide)) cf_20 us7 (by decide) fl_7_81 (rfl) d7_refusal_111 ?_
            refine lv_if_lt (tgt := 146) hx hb d7_refusal_114 (by decide) (fun c_43 => ?_) (fun c_43 => ?_)
            · refine lv_bipush (v := (-4)) hx hb d7_refusal_146 (by decide) ?_
              exact se_pi C0 (by rw [if_neg c_1, if_pos c_38, if_neg c_39, if_neg c_40, if_pos c_42, if_pos c_43] at hO; exact hO) d7_refusal_148
            · refine lv_aload_n hx hb d7_refusal_117 rfl (lv_at hl 2 rfl) ?_
              refine sr_get (v := .int (S 20 0 27)) hx hb hw hown hK hB 27 (hX 20 (by decide)) cf_20 us7 (by decide) fl_7_81 (rfl) d7_refusal_118 ?_
              refine lv_iconst (v := 2) hx hb d7_refusal_121 (by decide) ?_
              refine lv_icmp_eq (tgt := 146) hx hb d7_refusal_122 (by decide) (fun c_44 => ?_) (fun c_44 => ?_)
              · refine lv_bipush (v := (-4)) hx hb d7_refusal_146 (by decide) ?_
                exact se_pi C0 (by rw [if_neg c_1, if_pos c_38, if_neg c_39, if_neg c_40, if_pos c_42, if_neg c_43, if_pos c_44] at hO; exact hO) d7_refusal_148
              · refine lv_aload_n hx hb d7_refusal_125 rfl (lv_at hl 2 rfl) ?_
                refine sr_get (v := .int (S 20 0 31)) hx hb hw hown hK hB 31 (hX 20 (by decide)) cf_20 us7 (by decide) fl_7_159 (rfl) d7_refusal_126 ?_
                refine lv_if_eq (tgt := 139) hx hb d7_refusal_129 (by decide) (fun c_45 => ?_) (fun c_45 => ?_)
                · refine lv_aload_n hx hb d7_refusal_139 rfl (lv_at hl 2 rfl) ?_
                  refine sr_get (v := .int (S 20 0 33)) hx hb hw hown hK hB 33 (hX 20 (by decide)) cf_20 us7 (by decide) fl_7_166 (rfl) d7_refusal_140 ?_
                  refine lv_if_eq (tgt := 149) hx hb d7_refusal_143 (by decide) (fun c_46 => ?_) (fun c_46 => ?_)
                  · refine lv_aload_n hx hb d7_refusal_149 rfl (lv_at hl 2 rfl) ?_
                    refine sr_get (v := .int (S 20 0 27)) hx hb hw hown hK hB 27 (hX 20 (by decide)) cf_20 us7 (by decide) fl_7_81 (rfl) d7_refusal_150 ?_
                    refine lv_if_ne (tgt := 172) hx hb d7_refusal_153 (by decide) (fun c_47 => ?_) (fun c_47 => ?_)
                    · refine lv_aload_n hx hb d7_refusal_172 rfl (lv_at hl 2 rfl) ?_
                      refine sr_get (v := .int (S 20 0 27)) hx hb hw hown hK hB 27 (hX 20 (by decide)) cf_20 us7 (by decide) fl_7_81 (rfl) d7_refusal_173 ?_
                      refine lv_if_ne (tgt := 188) hx hb d7_refusal_176 (by decide) (fun _ => ?_) (fun c => absurd c c_47)
                      refine lv_aload_n hx hb d7_refusal_188 rfl (lv_at hl 2 rfl) ?_
                      refine sr_get (v := .int (S 20 0 27)) hx hb hw hown hK hB 27 (hX 20 (by decide)) cf_20 us7 (by decide) fl_7_81 (rfl) d7_refusal_189 ?_
                      refine lv_iconst (v := 3) hx hb d7_refusal_192 (by decide) ?_
                      refine lv_icmp_ne (tgt := 205) hx hb d7_refusal_193 (by decide) (fun c_49 => ?_) (fun c_49 => ?_)
                      · refine lv_iload_n hx hb d7_refusal_205 rfl (lv_at hl 3 rfl) ?_
                        refine lv_istore (lv' := [(6, .int x1), (5, .int 0), (4, .int (S 20 0 28)), (0, .ref (ad 20 0)), (1, .int x1), (2, .int x2), (3, .int x3)]) hx hb d7_refusal_206 hl (by decide) rfl (fun ls hl => ?_)
                        refine lv_iload_n hx hb d7_refusal_208 rfl (lv_at hl 4 rfl) ?_
                        refine lv_iload hx hb d7_refusal_209 (lv_at hl 0 rfl) ?_
                        refine lv_icmp_le (tgt := 219) hx hb d7_refusal_211 (by decide) (fun c_50 => ?_) (fun c_50 => ?_)
                        · refine lv_aload_n hx hb d7_refusal_219 rfl (lv_at hl 3 rfl) ?_
                          refine sr_get (v := .int (S 20 0 34)) hx hb hw hown hK hB 34 (hX 20 (by decide)) cf_20 us7 (by decide) fl_7_130 (rfl) d7_refusal_220 ?_
                          refine lv_sipush (v := 300) hx hb d7_refusal_223 (by decide) ?_
                          refine lv_icmp_ne (tgt := 234) hx hb d7_refusal_226 (by decide) (fun c_51 => ?_) (fun c_51 => ?_)
                          · refine lv_iconst (v := 0) hx hb d7_refusal_234 (by decide) ?_
                            exact se_pi C0 (by rw [if_neg c_1, if_pos c_38, if_neg c_39, if_neg c_40, if_pos c_42, if_neg c_43, if_neg c_44, if_pos c_45, if_pos c_46, if_neg c_47, if_neg c_49, if_pos c_50, if_neg c_51] at hO; exact hO) d7_refusal_235
                          · refine lv_bipush (v := (-8)) hx hb d7_refusal_229 (by decide) ?_
                            refine lv_goto (tgt := 235) hx hb d7_refusal_231 (by decide) ?_
                            exact se_pi C0 (by rw [if_neg c_1, if_pos c_38, if_neg c_39, if_neg c_40, if_pos c_42, if_neg c_43, if_neg c_44, if_pos c_45, if_pos c_46, if_neg c_47, if_neg c_49, if_pos c_50, if_pos c_51] at hO; exact hO) d7_refusal_235
                        · refine lv_bipush (v := (-7)) hx hb d7_refusal_214 (by decide) ?_
                          refine lv_goto (tgt := 235) hx hb d7_refusal_216 (by decide) ?_
                          exact se_pi C0 (by rw [if_neg c_1, if_pos c_38, if_neg c_39, if_neg c_40, if_pos c_42, if_neg c_43, if_neg c_44, if_pos c_45, if_pos c_46, if_neg c_47, if_neg c_49, if_neg c_50] at hO; exact hO) d7_refusal_235
                      · refine lv_aload_n hx hb d7_refusal_196 rfl (lv_at hl 2 rfl) ?_
                        refine lv_iload hx hb d7_refusal_197 (lv_at hl 1 rfl) ?_
                        refine sr_vp C0 hB (m7_bookOf hX (S 20 0 28) (by (have kc_40 := in_t c_40); (have l0 : (0 : Int32).toInt = 0 := rfl); (have l1000 : (1000 : Int32).toInt = 1000 := rfl);  first | assumption | omega) (by (have kc_40 := in_t c_40); (have l0 : (0 : Int32).toInt = 0 := rfl); (have l1000 : (1000 : Int32).toInt = 1000 := rfl);  first | assumption | omega)) (hX 20 (by decide)) cf_20 ml_7_169 im_7_bookOf se_7_bookOf in_7 cd_7_bookOf hd7_bookOf ⟨⟨rfl, rfl⟩, by decide, by decide⟩ ⟨Nat.zero_le _, Nat.zero_le _⟩ hl.1 rfl (Nat.le_of_ble_eq_true rfl) d7_refusal_199 ?_
                        refine lv_goto (tgt := 206) hx hb d7_refusal_202 (by decide) ?_
                        refine lv_istore (lv' := [(6, .int (V7_bookOf S A G (S 20 0 28))), (5, .int 0), (4, .int (S 20 0 28)), (0, .ref (ad 20 0)), (1, .int x1), (2, .int x2), (3, .int x3)]) hx hb d7_refusal_206 hl (by decide) rfl (fun ls hl => ?_)
                        refine lv_iload_n hx hb d7_refusal_208 rfl (lv_at hl 4 rfl) ?_
                        refine lv_iload hx hb d7_refusal_209 (lv_at hl 0 rfl) ?_
                        refine lv_icmp_le (tgt := 219) hx hb d7_refusal_211 (by decide) (fun c_52 => ?_) (fun c_52 => ?_)
                        · refine lv_aload_n hx hb d7_refusal_219 rfl (lv_at hl 3 rfl) ?_
                          refine sr_get (v := .int (S 20 0 34)) hx hb hw hown hK hB 34 (hX 20 (by decide)) cf_20 us7 (by decide) fl_7_130 (rfl) d7_refusal_220 ?_
                          refine lv_sipush (v := 300) hx hb d7_refusal_223 (by decide) ?_
                          refine lv_icmp_ne (tgt := 234) hx hb d7_refusal_226 (by decide) (fun c_53 => ?_) (fun c_53 => ?_)
                          · refine lv_iconst (v := 0) hx hb d7_refusal_234 (by decide) ?_
                            exact se_pi C0 (by rw [if_neg c_1, if_pos c_38, if_neg c_39, if_neg c_40, if_pos c_42, if_neg c_43, if_neg c_44, if_pos c_45, if_pos c_46, if_neg c_47, if_pos c_49, if_pos c_52, if_neg c_53] at hO; exact hO) d7_refusal_235
                          · refine lv_bipush (v := (-8)) hx hb d7_refusal_229 (by decide) ?_
                            refine lv_goto (tgt := 235) hx hb d7_refusal_231 (by decide) ?_
                            exact se_pi C0 (by rw [if_neg c_1, if_pos c_38, if_neg c_39, if_neg c_40, if_pos c_42, if_neg c_43, if_neg c_44, if_pos c_45, if_pos c_46, if_neg c_47, if_pos c_49, if_pos c_52, if_pos c_53] at hO; exact hO) d7_refusal_235
                        · refine lv_bipush (v := (-7)) hx hb d7_refusal_214 (by decide) ?_
                          refine lv_goto (tgt := 235) hx hb d7_refusal_216 (by decide) ?_
                          exact se_pi C0 (by rw [if_neg c_1, if_pos c_38, if_neg c_39, if_neg c_40, if_pos c_42, if_neg c_43, if_neg c_44, if_pos c_45, if_pos c_46, if_neg c_47, if_pos c_49, if_neg c_52] at hO; exact hO) d7_refusal_235
                    · refine lv_iload_n hx hb d7_refusal_156 rfl (lv_at hl 3 rfl) ?_
                      refine lv_aload_n hx hb d7_refusal_157 rfl (lv_at hl 2 rfl) ?_
                      refine sr_get (v := .ref (ad 43 0)) hx hb hw hown hK hB 22 (hX 20 (by decide)) cf_20 us7 (by decide) fl_7_66 (rfl) d7_refusal_158 ?_
                      refine lv_aload_n hx hb d7_refusal_161 rfl (lv_at hl 2 rfl) ?_
                      refine sr_get (v := .int (S 20 0 29)) hx hb hw hown hK hB 29 (hX 20 (by decide)) cf_20 us7 (by decide) fl_7_124 (rfl) d7_refusal_162 ?_
                      refine sr_iald (v := A 43 0 ((S 20 0 29).toNatClampNeg)) hx hb hK hB (hX 43 (by decide)) rfl rfl (by (refine vp_in_iff.mpr ?_); (show 0 ≤ (S 20 0 29).toInt ∧ (S 20 0 29).toInt < ((60 : Nat) : Int)); (have qs := hso (by assumption));  omega) d7_refusal_165 (rfl) ?_
                      refine lv_icmp_le (tgt := 172) hx hb d7_refusal_166 (by decide) (fun c_54 => ?_) (fun c_54 => ?_)
                      · refine lv_aload_n hx hb d7_refusal_172 rfl (lv_at hl 2 rfl) ?_
                        refine sr_get (v := .int (S 20 0 27)) hx hb hw hown hK hB 27 (hX 20 (by decide)) cf_20 us7 (by decide) fl_7_81 (rfl) d7_refusal_173 ?_
                        refine lv_if_ne (tgt := 188) hx hb d7_refusal_176 (by decide) (fun c => absurd c_47 c) (fun _ => ?_)
                        refine lv_aload_n hx hb d7_refusal_179 rfl (lv_at hl 2 rfl) ?_
                        refine lv_iload hx hb d7_refusal_180 (lv_at hl 1 rfl) ?_
                        refine sr_vp C0 hB (m7_givableOf hX (S 20 0 28) (by (have kc_40 := in_t c_40); (have l0 : (0 : Int32).toInt = 0 := rfl); (have l1000 : (1000 : Int32).toInt = 1000 := rfl);  first | assumption | omega) (by (have kc_40 := in_t c_40); (have l0 : (0 : Int32).toInt = 0 := rfl); (have l1000 : (1000 : Int32).toInt = 1000 := rfl);  first | assumption | omega)) (hX 20 (by decide)) cf_20 ml_7_133 im_7_givableOf se_7_givableOf in_7 cd_7_givableOf hd7_givableOf ⟨⟨rfl, rfl⟩, by decide, by decide⟩ ⟨Nat.zero_le _, Nat.zero_le _⟩ hl.1 rfl (Nat.le_of_ble_eq_true rfl) d7_refusal_182 ?_
                        refine lv_goto (tgt := 206) hx hb d7_refusal_185 (by decide) ?_
                        refine lv_istore (lv' := [(6, .int (V7_givableOf S A G (S 20 0 28))), (5, .int 0), (4, .int (S 20 0 28)), (0, .ref (ad 20 0)), (1, .int x1), (2, .int x2), (3, .int x3)]) hx hb d7_refusal_206 hl (by decide) rfl (fun ls hl => ?_)
                        refine lv_iload_n hx hb d7_refusal_208 rfl (lv_at hl 4 rfl) ?_
                        refine lv_iload hx hb d7_refusal_209 (lv_at hl 0 rfl) ?_
                        refine lv_icmp_le (tgt := 219) hx hb d7_refusal_211 (by decide) (fun c_56 => ?_) (fun c_56 => ?_)
                        · refine lv_aload_n hx hb d7_refusal_219 rfl (lv_at hl 3 rfl) ?_
                          refine sr_get (v := .int (S 20 0 34)) hx hb hw hown hK hB 34 (hX 20 (by decide)) cf_20 us7 (by decide) fl_7_130 (rfl) d7_refusal_220 ?_
                          refine lv_sipush (v := 300) hx hb d7_refusal_223 (by decide) ?_
                          refine lv_icmp_ne (tgt := 234) hx hb d7_refusal_226 (by decide) (fun c_57 => ?_) (fun c_57 => ?_)
                          · refine lv_iconst (v := 0) hx hb d7_refusal_234 (by decide) ?_
                            exact se_pi C0 (by rw [if_neg c_1, if_pos c_38, if_neg c_39, if_neg c_40, if_pos c_42, if_neg c_43, if_neg c_44, if_pos c_45, if_pos c_46, if_pos c_47, if_pos c_54, if_pos c_56, if_neg c_57] at hO; exact hO) d7_refusal_235
                          · refine lv_bipush (v := (-8)) hx hb d7_refusal_229 (by decide) ?_
                            refine lv_goto (tgt := 235) hx hb d7_refusal_231 (by decide) ?_
                            exact se_pi C0 (by rw [if_neg c_1, if_pos c_38, if_neg c_39, if_neg c_40, if_pos c_42, if_neg c_43, if_neg c_44, if_pos c_45, if_pos c_46, if_pos c_47, if_pos c_54, if_pos c_56, if_pos c_57] at hO; exact hO) d7_refusal_235
                        · refine lv_bipush (v := (-7)) hx hb d7_refusal_214 (by decide) ?_
                          refine lv_goto (tgt := 235) hx hb d7_refusal_216 (by decide) ?_
                          exact se_pi C0 (by rw [if_neg c_1, if_pos c_38, if_neg c_39, if_neg c_40, if_pos c_42, if_neg c_43, if_neg c_44, if_pos c_45, if_pos c_46, if_pos c_47, if_pos c_54, if_neg c_56] at hO; exact hO) d7_refusal_235
                      · refine lv_bipush (v := (-6)) hx hb d7_refusal_169 (by decide) ?_
                        exact se_pi C0 (by rw [if_neg c_1, if_pos c_38, if_neg c_39, if_neg c_40, if_pos c_42, if_neg c_43, if_neg c_44, if_pos c_45, if_pos c_46, if_pos c_47, if_neg c_54] at hO; exact hO) d7_refusal_171
                  · refine lv_bipush (v := (-4)) hx hb d7_refusal_146 (by decide) ?_
                    exact se_pi C0 (by rw [if_neg c_1, if_pos c_38, if_neg c_39, if_neg c_40, if_pos c_42, if_neg c_43, if_neg c_44, if_pos c_45, if_neg c_46] at hO; exact hO) d7_refusal_148
                · refine lv_aload_n hx hb d7_refusal_132 rfl (lv_at hl 2 rfl) ?_
                  refine sr_get (v := .int (S 20 0 32)) hx hb hw hown hK hB 32 (hX 20 (by decide)) cf_20 us7 (by decide) fl_7_163 (rfl) d7_refusal_133 ?_
                  refine lv_if_eq (tgt := 146) hx hb d7_refusal_136 (by decide) (fun c_58 => ?_) (fun c_58 => ?_)
                  · refine lv_bipush (v := (-4)) hx hb d7_refusal_146 (by decide) ?_
                    exact se_pi C0 (by rw [if_neg c_1, if_pos c_38, if_neg c_39, if_neg c_40, if_pos c_42, if_neg c_43, if_neg c_44, if_neg c_45, if_pos c_58] at hO; exact hO) d7_refusal_148
                  · refine lv_aload_n hx hb d7_refusal_139 rfl (lv_at hl 2 rfl) ?_
                    refine sr_get (v := .int (S 20 0 33)) hx hb hw hown hK hB 33 (hX 20 (by decide)) cf_20 us7 (by decide) fl_7_166 (rfl) d7_refusal_140 ?_
                    refine lv_if_eq (tgt := 149) hx hb d7_refusal_143 (by decide) (fun c_59 => ?_) (fun c_59 => ?_)
                    · refine lv_aload_n hx hb d7_refusal_149 rfl (lv_at hl 2 rfl) ?_
                      refine sr_get (v := .int (S 20 0 27)) hx hb hw hown hK hB 27 (hX 20 (by decide)) cf_20 us7 (by decide) fl_7_81 (rfl) d7_refusal_150 ?_
                      refine lv_if_ne (tgt := 172) hx hb d7_refusal_153 (by decide) (fun c_60 => ?_) (fun c_60 => ?_)
                      · refine lv_aload_n hx hb d7_refusal_172 rfl (lv_at hl 2 rfl) ?_
                        refine sr_get (v := .int (S 20 0 27)) hx hb hw hown hK hB 27 (hX 20 (by decide)) cf_20 us7 (by decide) fl_7_81 (rfl) d7_refusal_173 ?_
                        refine lv_if_ne (tgt := 188) hx hb d7_refusal_176 (by decide) (fun _ => ?_) (fun c => absurd c c_60)
                        refine lv_aload_n hx hb d7_refusal_188 rfl (lv_at hl 2 rfl) ?_
                        refine sr_get (v := .int (S 20 0 27)) hx hb hw hown hK hB 27 (hX 20 (by decide)) cf_20 us7 (by decide) fl_7_81 (rfl) d7_refusal_189 ?_
                        refine lv_iconst (v := 3) hx hb d7_refusal_192 (by decide) ?_
                        refine lv_icmp_ne (tgt := 205) hx hb d7_refusal_193 (by decide) (fun c_62 => ?_) (fun c_62 => ?_)
                        · refine lv_iload_n hx hb d7_refusal_205 rfl (lv_at hl 3 rfl) ?_
                          refine lv_istore (lv' := [(6, .int x1), (5, .int 0), (4, .int (S 20 0 28)), (0, .ref (ad 20 0)), (1, .int x1), (2, .int x2), (3, .int x3)]) hx hb d7_refusal_206 hl (by decide) rfl (fun ls hl => ?_)
                          refine lv_iload_n hx hb d7_refusal_208 rfl (lv_at hl 4 rfl) ?_
                          refine lv_iload hx hb d7_refusal_209 (lv_at hl 0 rfl) ?_
                          refine lv_icmp_le (tgt := 219) hx hb d7_refusal_211 (by decide) (fun c_63 => ?_) (fun c_63 => ?_)
                          · refine lv_aload_n hx hb d7_refusal_219 rfl (lv_at hl 3 rfl) ?_
                            refine sr_get (v := .int (S 20 0 34)) hx hb hw hown hK hB 34 (hX 20 (by decide)) cf_20 us7 (by decide) fl_7_130 (rfl) d7_refusal_220 ?_
                            refine lv_sipush (v := 300) hx hb d7_refusal_223 (by decide) ?_
                            refine lv_icmp_ne (tgt := 234) hx hb d7_refusal_226 (by decide) (fun c_64 => ?_) (fun c_64 => ?_)
                            · refine lv_iconst (v := 0) hx hb d7_refusal_234 (by decide) ?_
                              exact se_pi C0 (by rw [if_neg c_1, if_pos c_38, if_neg c_39, if_neg c_40, if_pos c_42, if_neg c_43, if_neg c_44, if_neg c_45, if_neg c_58, if_pos c_59, if_neg c_60, if_neg c_62, if_pos c_63, if_neg c_64] at hO; exact hO) d7_refusal_235
                            · refine lv_bipush (v := (-8)) hx hb d7_refusal_229 (by decide) ?_
                              refine lv_goto (tgt := 235) hx hb d7_refusal_231 (by decide) ?_
                              exact se_pi C0 (by rw [if_neg c_1, if_pos c_38, if_neg c_39, if_neg c_40, if_pos c_42, if_neg c_43, if_neg c_44, if_neg c_45, if_neg c_58, if_pos c_59, if_neg c_60, if_neg c_62, if_pos c_63, if_pos c_64] at hO; exact hO) d7_refusal_235
                          · refine lv_bipush (v := (-7)) hx hb d7_refusal_214 (by decide) ?_
                            refine lv_goto (tgt := 235) hx hb d7_refusal_216 (by decide) ?_
                            exact se_pi C0 (by rw [if_neg c_1, if_pos c_38, if_neg c_39, if_neg c_40, if_pos c_42, if_neg c_43, if_neg c_44, if_neg c_45, if_neg c_58, if_pos c_59, if_neg c_60, if_neg c_62, if_neg c_63] at hO; exact hO) d7_refusal_235
                        · refine lv_aload_n hx hb d7_refusal_196 rfl (lv_at hl 2 rfl) ?_
                          refine lv_iload hx hb d7_refusal_197 (lv_at hl 1 rfl) ?_
                          refine sr_vp C0 hB (m7_bookOf hX (S 20 0 28) (by (have kc_40 := in_t c_40); (have l0 : (0 : Int32).toInt = 0 := rfl); (have l1000 : (1000 : Int32).toInt = 1000 := rfl);  first | assumption | omega) (by (have kc_40 := in_t c_40); (have l0 : (0 : Int32).toInt = 0 := rfl); (have l1000 : (1000 : Int32).toInt = 1000 := rfl);  first | assumption | omega)) (hX 20 (by decide)) cf_20 ml_7_169 im_7_bookOf se_7_bookOf in_7 cd_7_bookOf hd7_bookOf ⟨⟨rfl, rfl⟩, by decide, by decide⟩ ⟨Nat.zero_le _, Nat.zero_le _⟩ hl.1 rfl (Nat.le_of_ble_eq_true rfl) d7_refusal_199 ?_
                          refine lv_goto (tgt := 206) hx hb d7_refusal_202 (by decide) ?_
                          refine lv_istore (lv' := [(6, .int (V7_bookOf S A G (S 20 0 28))), (5, .int 0), (4, .int (S 20 0 28)), (0, .ref (ad 20 0)), (1, .int x1), (2, .int x2), (3, .int x3)]) hx hb d7_refusal_206 hl (by decide) rfl (fun ls hl => ?_)
                          refine lv_iload_n hx hb d7_refusal_208 rfl (lv_at hl 4 rfl) ?_
                          refine lv_iload hx hb d7_refusal_209 (lv_at hl 0 rfl) ?_
                          refine lv_icmp_le (tgt := 219) hx hb d7_refusal_211 (by decide) (fun c_65 => ?_) (fun c_65 => ?_)
                          · refine lv_aload_n hx hb d7_refusal_219 rfl (lv_at hl 3 rfl) ?_
                            refine sr_get (v := .int (S 20 0 34)) hx hb hw hown hK hB 34 (hX 20 (by decide)) cf_20 us7 (by decide) fl_7_130 (rfl) d7_refusal_220 ?_
                            refine lv_sipush (v := 300) hx hb d7_refusal_223 (by decide) ?_
                            refine lv_icmp_ne (tgt := 234) hx hb d7_refusal_226 (by decide) (fun c_66 => ?_) (fun c_66 => ?_)
                            · refine lv_iconst (v := 0) hx hb d7_refusal_234 (by decide) ?_
                              exact se_pi C0 (by rw [if_neg c_1, if_pos c_38, if_neg c_39, if_neg c_40, if_pos c_42, if_neg c_43, if_neg c_44, if_neg c_45, if_neg c_58, if_pos c_59, if_neg c_60, if_pos c_62, if_pos c_65, if_neg c_66] at hO; exact hO) d7_refusal_235
                            · refine lv_bipush (v := (-8)) hx hb d7_refusal_229 (by decide) ?_
                              refine lv_goto (tgt := 235) hx hb d7_refusal_231 (by decide) ?_
                              exact se_pi C0 (by rw [if_neg c_1, if_pos c_38, if_neg c_39, if_neg c_40, if_pos c_42, if_neg c_43, if_neg c_44, if_neg c_45, if_neg c_58, if_pos c_59, if_neg c_60, if_pos c_62, if_pos c_65, if_pos c_66] at hO; exact hO) d7_refusal_235
                          · refine lv_bipush (v := (-7)) hx hb d7_refusal_214 (by decide) ?_
                            refine lv_goto (tgt := 235) hx hb d7_refusal_216 (by decide) ?_
                            exact se_pi C0 (by rw [if_neg c_1, if_pos c_38, if_neg c_39, if_neg c_40, if_pos c_42, if_neg c_43, if_neg c_44, if_neg c_45, if_neg c_58, if_pos c_59, if_neg c_60, if_pos c_62, if_neg c_65] at hO; exact hO) d7_refusal_235
                      · refine lv_iload_n hx hb d7_refusal_156 rfl (lv_at hl 3 rfl) ?_
                        refine lv_aload_n hx hb d7_refusal_157 rfl (lv_at hl 2 rfl) ?_
                        refine sr_get (v := .ref (ad 43 0)) hx hb hw hown hK hB 22 (hX 20 (by decide)) cf_20 us7 (by decide) fl_7_66 (rfl) d7_refusal_158 ?_
                        refine lv_aload_n hx hb d7_refusal_161 rfl (lv_at hl 2 rfl) ?_
                        refine sr_get (v := .int (S 20 0 29)) hx hb hw hown hK hB 29 (hX 20 (by decide)) cf_20 us7 (by decide) fl_7_124 (rfl) d7_refusal_162 ?_
                        refine sr_iald (v := A 43 0 ((S 20 0 29).toNatClampNeg)) hx hb hK hB (hX 43 (by decide)) rfl rfl (by (refine vp_in_iff.mpr ?_); (show 0 ≤ (S 20 0 29).toInt ∧ (S 20 0 29).toInt < ((60 : Nat) : Int)); (have qs := hso (by assumption));  omega) d7_refusal_165 (rfl) ?_
                        refine lv_icmp_le (tgt := 172) hx hb d7_refusal_166 (by decide) (fun c_67 => ?_) (fun c_67 => ?_)
                        · refine lv_aload_n hx hb d7_refusal_172 rfl (lv_at hl 2 rfl) ?_
                          refine sr_get (v := .int (S 20 0 27)) hx hb hw hown hK hB 27 (hX 20 (by decide)) cf_20 us7 (by decide) fl_7_81 (rfl) d7_refusal_173 ?_
                          refine lv_if_ne (tgt := 188) hx hb d7_refusal_176 (by decide) (fun c => absurd c_60 c) (fun _ => ?_)
                          refine lv_aload_n hx hb d7_refusal_179 rfl (lv_at hl 2 rfl) ?_
                          refine lv_iload hx hb d7_refusal_180 (lv_at hl 1 rfl) ?_
                          refine sr_vp C0 hB (m7_givableOf hX (S 20 0 28) (by (have kc_40 := in_t c_40); (have l0 : (0 : Int32).toInt = 0 := rfl); (have l1000 : (1000 : Int32).toInt = 1000 := rfl);  first | assumption | omega) (by (have kc_40 := in_t c_40); (have l0 : (0 : Int32).toInt = 0 := rfl); (have l1000 : (1000 : Int32).toInt = 1000 := rfl);  first | assumption | omega)) (hX 20 (by decide)) cf_20 ml_7_133 im_7_givableOf se_7_givableOf in_7 cd_7_givableOf hd7_givableOf ⟨⟨rfl, rfl⟩, by decide, by decide⟩ ⟨Nat.zero_le _, Nat.zero_le _⟩ hl.1 rfl (Nat.le_of_ble_eq_true rfl) d7_refusal_182 ?_
                          refine lv_goto (tgt := 206) hx hb d7_refusal_185 (by decide) ?_
                          refine lv_istore (lv' := [(6, .int (V7_givableOf S A G (S 20 0 28))), (5, .int 0), (4, .int (S 20 0 28)), (0, .ref (ad 20 0)), (1, .int x1), (2, .int x2), (3, .int x3)]) hx hb d7_refusal_206 hl (by decide) rfl (fun ls hl => ?_)
                          refine lv_iload_n hx hb d7_refusal_208 rfl (lv_at hl 4 rfl) ?_
                          refine lv_iload hx hb d7_refusal_209 (lv_at hl 0 rfl) ?_
                          refine lv_icmp_le (tgt := 219) hx hb d7_refusal_211 (by decide) (fun c_69 => ?_) (fun c_69 => ?_)
                          · refine lv_aload_n hx hb d7_refusal_219 rfl (lv_at hl 3 rfl) ?_
                            refine sr_get (v := .int (S 20 0 34)) hx hb hw hown hK hB 34 (hX 20 (by decide)) cf_20 us7 (by decide) fl_7_130 (rfl) d7_refusal_220 ?_
                            refine lv_sipush (v := 300) hx hb d7_refusal_223 (by decide) ?_
                            refine lv_icmp_ne (tgt := 234) hx hb d7_refusal_226 (by decide) (fun c_70 => ?_) (fun c_70 => ?_)
                            · refine lv_iconst (v := 0) hx hb d7_refusal_234 (by decide) ?_
                              exact se_pi C0 (by rw [if_neg c_1, if_pos c_38, if_neg c_39, if_neg c_40, if_pos c_42, if_neg c_43, if_neg c_44, if_neg c_45, if_neg c_58, if_pos c_59, if_pos c_60, if_pos c_67, if_pos c_69, if_neg c_70] at hO; exact hO) d7_refusal_235
                            · refine lv_bipush (v := (-8)) hx hb d7_refusal_229 (by decide) ?_
                              refine lv_goto (tgt := 235) hx hb d7_refusal_231 (by decide) ?_
                              exact se_pi C0 (by rw [if_neg c_1, if_pos c_38, if_neg c_39, if_neg c_40, if_pos c_42, if_neg c_43, if_neg c_44, if_neg c_45, if_neg c_58, if_pos c_59, if_pos c_60, if_pos c_67, if_pos c_69, if_pos c_70] at hO; exact hO) d7_refusal_235
                          · refine lv_bipush (v := (-7)) hx hb d7_refusal_214 (by decide) ?_
                            refine lv_goto (tgt := 235) hx hb d7_refusal_216 (by decide) ?_
                            exact se_pi C0 (by rw [if_neg c_1, if_pos c_38, if_neg c_39, if_neg c_40, if_pos c_42, if_neg c_43, if_neg c_44, if_neg c_45, if_neg c_58, if_pos c_59, if_pos c_60, if_pos c_67, if_neg c_69] at hO; exact hO) d7_refusal_235
                        · refine lv_bipush (v := (-6)) hx hb d7_refusal_169 (by decide) ?_
                          exact se_pi C0 (by rw [if_neg c_1, if_pos c_38, if_neg c_39, if_neg c_40, if_pos c_42, if_neg c_43, if_neg c_44, if_neg c_45, if_neg c_58, if_pos c_59, if_pos c_60, if_neg c_67] at hO; exact hO) d7_refusal_171
                    · refine lv_bipush (v := (-4)) hx hb d7_refusal_146 (by decide) ?_
                      exact se_pi C0 (by rw [if_neg c_1, if_pos c_38, if_neg c_39, if_neg c_40, if_pos c_42, if_neg c_43, if_neg c_44, if_neg c_45, if_neg c_58, if_neg c_59] at hO; exact hO) d7_refusal_148
          · refine lv_bipush (v := (-2)) hx hb d7_refusal_107 (by decide) ?_
            exact se_pi C0 (by rw [if_neg c_1, if_pos c_38, if_neg c_39, if_neg c_40, if_neg c_42] at hO; exact hO) d7_refusal_109
      · refine lv_iload hx hb d7_refusal_41 (lv_at hl 0 rfl) ?_
        refine lv_if_eq (tgt := 71) hx hb d7_refusal_43 (by decide) (fun _ => ?_) (fun c => absurd (by decide) c)
        refine lv_iconst (v := 0) hx hb d7_refusal_71 (by decide) ?_
        refine lv_istore (lv' := [(5, .int 0), (4, .int (S 20 0 28)), (0, .ref (ad 20 0)), (1, .int x1), (2, .int x2), (3, .int x3)]) hx hb d7_refusal_72 hl (by decide) rfl (fun ls hl => ?_)
        refine lv_iload_n hx hb d7_refusal_74 rfl (lv_at hl 3 rfl) ?_
        refine lv_iconst (v := 0) hx hb d7_refusal_75 (by decide) ?_
        refine lv_sipush (v := 1000) hx hb d7_refusal_76 (by decide) ?_
        refine sr_sp C0 hB (m7_in hX x1 0 1000 ) ml_7_93 st_7_in in_7 cd_7_in hd7_in ⟨⟨rfl, rfl⟩, by decide, by decide⟩ ⟨Nat.zero_le _, Nat.zero_le _⟩ hl.1 rfl (Nat.le_of_ble_eq_true rfl) d7_refusal_79 ?_
        refine lv_if_eq (tgt := 98) hx hb d7_refusal_82 (by decide) (fun c_72 => ?_) (fun c_72 => ?_)
        · refine lv_iconst (v := (-1)) hx hb d7_refusal_98 (by decide) ?_
          exact se_pi C0 (by rw [if_neg c_1, if_pos c_38, if_pos c_39, if_pos c_72] at hO; exact hO) d7_refusal_99
        · refine lv_aload_n hx hb d7_refusal_85 rfl (lv_at hl 2 rfl) ?_
          refine sr_get (v := .int (S 20 0 27)) hx hb hw hown hK hB 27 (hX 20 (by decide)) cf_20 us7 (by decide) fl_7_81 (rfl) d7_refusal_86 ?_
          refine lv_iconst (v := 1) hx hb d7_refusal_89 (by decide) ?_
          refine lv_icmp_ne (tgt := 100) hx hb d7_refusal_90 (by decide) (fun c => absurd c_39 c) (fun _ => ?_)
          refine lv_iload hx hb d7_refusal_93 (lv_at hl 0 rfl) ?_
          refine lv_if_ne (tgt := 100) hx hb d7_refusal_95 (by decide) (fun c => absurd (by decide) c) (fun _ => ?_)
          refine lv_iconst (v := (-1)) hx hb d7_refusal_98 (by decide) ?_
          exact se_pi C0 (by rw [if_neg c_1, if_pos c_38, if_pos c_39, if_neg c_72] at hO; exact hO) d7_refusal_99
    · refine lv_iload_n hx hb d7_refusal_22 rfl (lv_at hl 2 rfl) ?_
      refine lv_if_le (tgt := 30) hx hb d7_refusal_23 (by decide) (fun c_75 => ?_) (fun c_75 => ?_)
      · refine lv_iconst (v := 0) hx hb d7_refusal_30 (by decide) ?_
        refine lv_istore (lv' := [(5, .int 0), (4, .int (S 20 0 28)), (0, .ref (ad 20 0)), (1, .int x1), (2, .int x2), (3, .int x3)]) hx hb d7_refusal_31 hl (by decide) rfl (fun ls hl => ?_)
        refine lv_aload_n hx hb d7_refusal_33 rfl (lv_at hl 2 rfl) ?_
        refine sr_get (v := .int (S 20 0 27)) hx hb hw hown hK hB 27 (hX 20 (by decide)) cf_20 us7 (by decide) fl_7_81 (rfl) d7_refusal_34 ?_
        refine lv_iconst (v := 1) hx hb d7_refusal_37 (by decide) ?_
        refine lv_icmp_ne (tgt := 74) hx hb d7_refusal_38 (by decide) (fun c_76 => ?_) (fun c_76 => ?_)
        · refine lv_iload_n hx hb d7_refusal_74 rfl (lv_at hl 3 rfl) ?_
          refine lv_iconst (v := 0) hx hb d7_refusal_75 (by decide) ?_
          refine lv_sipush (v := 1000) hx hb d7_refusal_76 (by decide) ?_
          refine sr_sp C0 hB (m7_in hX x1 0 1000 ) ml_7_93 st_7_in in_7 cd_7_in hd7_in ⟨⟨rfl, rfl⟩, by decide, by decide⟩ ⟨Nat.zero_le _, Nat.zero_le _⟩ hl.1 rfl (Nat.le_of_ble_eq_true rfl) d7_refusal_79 ?_
          refine lv_if_eq (tgt := 98) hx hb d7_refusal_82 (by decide) (fun c_77 => ?_) (fun c_77 => ?_)
          · refine lv_iconst (v := (-1)) hx hb d7_refusal_98 (by decide) ?_
            exact se_pi C0 (by rw [if_neg c_1, if_neg c_38, if_pos c_75, if_neg c_76, if_pos c_77] at hO; exact hO) d7_refusal_99
          · refine lv_aload_n hx hb d7_refusal_85 rfl (lv_at hl 2 rfl) ?_
            refine sr_get (v := .int (S 20 0 27)) hx hb hw hown hK hB 27 (hX 20 (by decide)) cf_20 us7 (by decide) fl_7_81 (rfl) d7_refusal_86 ?_
            refine lv_iconst (v := 1) hx hb d7_refusal_89 (by decide) ?_
            refine lv_icmp_ne (tgt := 100) hx hb d7_refusal_90 (by decide) (fun _ => ?_) (fun c => absurd c c_76)
            refine lv_aload_n hx hb d7_refusal_100 rfl (lv_at hl 2 rfl) ?_
            refine sr_get (v := .int (S 20 0 6)) hx hb hw hown hK hB 6 (hX 20 (by decide)) cf_20 us7 (by decide) fl_7_26 (rfl) d7_refusal_101 ?_
            refine lv_if_ge (tgt := 110) hx hb d7_refusal_104 (by decide) (fun c_79 => ?_) (fun c_79 => ?_)
            · refine lv_aload_n hx hb d7_refusal_110 rfl (lv_at hl 2 rfl) ?_
              refine sr_get (v := .int (S 20 0 27)) hx hb hw hown hK hB 27 (hX 20 (by decide)) cf_20 us7 (by decide) fl_7_81 (rfl) d7_refusal_111 ?_
              refine lv_if_lt (tgt := 146) hx hb d7_refusal_114 (by decide) (fun c_80 => ?_) (fun c_80 => ?_)
              · refine lv_bipush (v := (-4)) hx hb d7_refusal_146 (by decide) ?_
                exact se_pi C0 (by rw [if_neg c_1, if_neg c_38, if_pos c_75, if_neg c_76, if_neg c_77, if_pos c_79, if_pos c_80] at hO; exact hO) d7_refusal_148
              · refine lv_aload_n hx hb d7_refusal_117 rfl (lv_at hl 2 rfl) ?_
                refine sr_get (v := .int (S 20 0 27)) hx hb hw hown hK hB 27 (hX 20 (by decide)) cf_20 us7 (by decide) fl_7_81 (rfl) d7_refusal_118 ?_
                refine lv_iconst (v := 2) hx hb d7_refusal_121 (by decide) ?_
                refine lv_icmp_eq (tgt := 146) hx hb d7_refusal_122 (by decide) (fun c_81 => ?_) (fun c_81 => ?_)
                · refine lv_bipush (v := (-4)) hx hb d7_refusal_146 (by decide) ?_
                  exact se_pi C0 (by rw [if_neg c_1, if_neg c_38, if_pos c_75, if_neg c_76, if_neg c_77, if_pos c_79, if_neg c_80, if_pos c_81] at hO; exact hO) d7_refusal_148
                · refine lv_aload_n hx hb d7_refusal_125 rfl (lv_at hl 2 rfl) ?_
                  refine sr_get (v := .int (S 20 0 31)) hx hb hw hown hK hB 31 (hX 20 (by decide)) cf_20 us7 (by decide) fl_7_159 (rfl) d7_refusal_126 ?_
                  refine lv_if_eq (tgt := 139) hx hb d7_refusal_129 (by decide) (fun c_82 => ?_) (fun c_82 => ?_)
                  · refine lv_aload_n hx hb d7_refusal_139 rfl (lv_at hl 2 rfl) ?_
                    refine sr_get (v := .int (S 20 0 33)) hx hb hw hown hK hB 33 (hX 20 (by decide)) cf_20 us7 (by decide) fl_7_166 (rfl) d7_refusal_140 ?_
                    refine lv_if_eq (tgt := 149) hx hb d7_refusal_143 (by decide) (fun c_83 => ?_) (fun c_83 => ?_)
                    · refine lv_aload_n hx hb d7_refusal_149 rfl (lv_at hl 2 rfl) ?_
                      refine sr_get (v := .int (S 20 0 27)) hx hb hw hown hK hB 27 (hX 20 (by decide)) cf_20 us7 (by decide) fl_7_81 (rfl) d7_refusal_150 ?_
                      refine lv_if_ne (tgt := 172) hx hb d7_refusal_153 (by decide) (fun c_84 => ?_) (fun c_84 => ?_)
                      · refine lv_aload_n hx hb d7_refusal_172 rfl (lv_at hl 2 rfl) ?_
                        refine sr_get (v := .int (S 20 0 27)) hx hb hw hown hK hB 27 (hX 20 (by decide)) cf_20 us7 (by decide) fl_7_81 (rfl) d7_refusal_173 ?_
                        refine lv_if_ne (tgt := 188) hx hb d7_refusal_176 (by decide) (fun _ => ?_) (fun c => absurd c c_84)
                        refine lv_aload_n hx hb d7_refusal_188 rfl (lv_at hl 2 rfl) ?_
                        refine sr_get (v := .int (S 20 0 27)) hx hb hw hown hK hB 27 (hX 20 (by decide)) cf_20 us7 (by decide) fl_7_81 (rfl) d7_refusal_189 ?_
                        refine lv_iconst (v := 3) hx hb d7_refusal_192 (by decide) ?_
                        refine lv_icmp_ne (tgt := 205) hx hb d7_refusal_193 (by decide) (fun c_86 => ?_) (fun c_86 => ?_)
                        · refine lv_iload_n hx hb d7_refusal_205 rfl (lv_at hl 3 rfl) ?_
                          refine lv_istore (lv' := [(6, .int x1), (5, .int 0), (4, .int (S 20 0 28)), (0, .ref (ad 20 0)), (1, .int x1), (2, .int x2), (3, .int x3)]) hx hb d7_refusal_206 hl (by decide) rfl (fun ls hl => ?_)
                          refine lv_iload_n hx hb d7_refusal_208 rfl (lv_at hl 4 rfl) ?_
                          refine lv_iload hx hb d7_refusal_209 (lv_at hl 0 rfl) ?_
                          refine lv_icmp_le (tgt := 219) hx hb d7_refusal_211 (by decide) (fun c_87 => ?_) (fun c_87 => ?_)
                          · refine lv_aload_n hx hb d7_refusal_219 rfl (lv_at hl 3 rfl) ?_
                            refine sr_get (v := .int (S 20 0 34)) hx hb hw hown hK hB 34 (hX 20 (by decide)) cf_20 us7 (by decide) fl_7_130 (rfl) d7_refusal_220 ?_
                            refine lv_sipush (v := 300) hx hb d7_refusal_223 (by decide) ?_
                            refine lv_icmp_ne (tgt := 234) hx hb d7_refusal_226 (by decide) (fun c_88 => ?_) (fun c_88 => ?_)
                            · refine lv_iconst (v := 0) hx hb d7_refusal_234 (by decide) ?_
                              exact se_pi C0 (by rw [if_neg c_1, if_neg c_38, if_pos c_75, if_neg c_76, if_neg c_77, if_pos c_79, if_neg c_80, if_neg c_81, if_pos c_82, if_pos c_83, if_neg c_84, if_neg c_86, if_pos c_87, if_neg c_88] at hO; exact hO) d7_refusal_235
                            · refine lv_bipush (v := (-8)) hx hb d7_refusal_229 (by decide) ?_
                              refine lv_goto (tgt := 235) hx hb d7_refusal_231 (by decide) ?_
                              exact se_pi C0 (by rw [if_neg c_1, if_neg c_38, if_pos c_75, if_neg c_76, if_neg c_77, if_pos c_79, if_neg c_80, if_neg c_81, if_pos c_82, if_pos c_83, if_neg c_84, if_neg c_86, if_pos c_87, if_pos c_88] at hO; exact hO) d7_refusal_235
                          · refine lv_bipush (v := (-7)) hx hb d7_refusal_214 (by decide) ?_
                            refine lv_goto (tgt := 235) hx hb d7_refusal_216 (by decide) ?_
                            exact se_pi C0 (by rw [if_neg c_1, if_neg c_38, if_pos c_75, if_neg c_76, if_neg c_77, if_pos c_79, if_neg c_80, if_neg c_81, if_pos c_82, if_pos c_83, if_neg c_84, if_neg c_86, if_neg c_87] at hO; exact hO) d7_refusal_235
                        · refine lv_aload_n hx hb d7_refusal_196 rfl (lv_at hl 2 rfl) ?_
                          refine lv_iload hx hb d7_refusal_197 (lv_at hl 1 rfl) ?_
                          refine sr_vp C0 hB (m7_bookOf hX (S 20 0 28) (by (have kc_75 := le_i c_75); (have kc_77 := in_t c_77); (have l0 : (0 : Int32).toInt = 0 := rfl); (have l1000 : (1000 : Int32).toInt = 1000 := rfl);  first | assumption | omega) (by (have kc_75 := le_i c_75); (have kc_77 := in_t c_77); (have l0 : (0 : Int32).toInt = 0 := rfl); (have l1000 : (1000 : Int32).toInt = 1000 := rfl);  first | assumption | omega)) (hX 20 (by decide)) cf_20 ml_7_169 im_7_bookOf se_7_bookOf in_7 cd_7_bookOf hd7_bookOf ⟨⟨rfl, rfl⟩, by decide, by decide⟩ ⟨Nat.zero_le _, Nat.zero_le _⟩ hl.1 rfl (Nat.le_of_ble_eq_true rfl) d7_refusal_199 ?_
                          refine lv_goto (tgt := 206) hx hb d7_refusal_202 (by decide) ?_
                          refine lv_istore (lv' := [(6, .int (V7_bookOf S A G (S 20 0 28))), (5, .int 0), (4, .int (S 20 0 28)), (0, .ref (ad 20 0)), (1, .int x1), (2, .int x2), (3, .int x3)]) hx hb d7_refusal_206 hl (by decide) rfl (fun ls hl => ?_)
                          refine lv_iload_n hx hb d7_refusal_208 rfl (lv_at hl 4 rfl) ?_
                          refine lv_iload hx hb d7_refusal_209 (lv_at hl 0 rfl) ?_
                          refine lv_icmp_le (tgt := 219) hx hb d7_refusal_211 (by decide) (fun c_89 => ?_) (fun c_89 => ?_)
                          · refine lv_aload_n hx hb d7_refusal_219 rfl (lv_at hl 3 rfl) ?_
                            refine sr_get (v := .int (S 20 0 34)) hx hb hw hown hK hB 34 (hX 20 (by decide)) cf_20 us7 (by decide) fl_7_130 (rfl) d7_refusal_220 ?_
                            refine lv_sipush (v := 300) hx hb d7_refusal_223 (by decide) ?_
                            refine lv_icmp_ne (tgt := 234) hx hb d7_refusal_226 (by decide) (fun c_90 => ?_) (fun c_90 => ?_)
                            · refine lv_iconst (v := 0) hx hb d7_refusal_234 (by decide) ?_
                              exact se_pi C0 (by rw [if_neg c_1, if_neg c_38, if_pos c_75, if_neg c_76, if_neg c_77, if_pos c_79, if_neg c_80, if_neg c_81, if_pos c_82, if_pos c_83, if_neg c_84, if_pos c_86, if_pos c_89, if_neg c_90] at hO; exact hO) d7_refusal_235
                            · refine lv_bipush (v := (-8)) hx hb d7_refusal_229 (by decide) ?_
                              refine lv_goto (tgt := 235) hx hb d7_refusal_231 (by decide) ?_
                              exact se_pi C0 (by rw [if_neg c_1, if_neg c_38, if_pos c_75, if_neg c_76, if_neg c_77, if_pos c_79, if_neg c_80, if_neg c_81, if_pos c_82, if_pos c_83, if_neg c_84, if_pos c_86, if_pos c_89, if_pos c_90] at hO; exact hO) d7_refusal_235
                          · refine lv_bipush (v := (-7)) hx hb d7_refusal_214 (by decide) ?_
                            refine lv_goto (tgt := 235) hx hb d7_refusal_216 (by decide) ?_
                            exact se_pi C0 (by rw [if_neg c_1, if_neg c_38, if_pos c_75, if_neg c_76, if_neg c_77, if_pos c_79, if_neg c_80, if_neg c_81, if_pos c_82, if_pos c_83, if_neg c_84, if_pos c_86, if_neg c_89] at hO; exact hO) d7_refusal_235
                      · refine lv_iload_n hx hb d7_refusal_156 rfl (lv_at hl 3 rfl) ?_
                        refine lv_aload_n hx hb d7_refusal_157 rfl (lv_at hl 2 rfl) ?_
                        refine sr_get (v := .ref (ad 43 0)) hx hb hw hown hK hB 22 (hX 20 (by decide)) cf_20 us7 (by decide) fl_7_66 (rfl) d7_refusal_158 ?_
                        refine lv_aload_n hx hb d7_refusal_161 rfl (lv_at hl 2 rfl) ?_
                        refine sr_get (v := .int (S 20 0 29)) hx hb hw hown hK hB 29 (hX 20 (by decide)) cf_20 us7 (by decide) fl_7_124 (rfl) d7_refusal_162 ?_
                        refine sr_iald (v := A 43 0 ((S 20 0 29).toNatClampNeg)) hx hb hK hB (hX 43 (by decide)) rfl rfl (by (refine vp_in_iff.mpr ?_); (show 0 ≤ (S 20 0 29).toInt ∧ (S 20 0 29).toInt < ((60 : Nat) : Int)); (have qs := hso (by assumption));  omega) d7_refusal_165 (rfl) ?_
                        refine lv_icmp_le (tgt := 172) hx hb d7_refusal_166 (by decide) (fun c_91 => ?_) (fun c_91 => ?_)
                        · refine lv_aload_n hx hb d7_refusal_172 rfl (lv_at hl 2 rfl) ?_
                          refine sr_get (v := .int (S 20 0 27)) hx hb hw hown hK hB 27 (hX 20 (by decide)) cf_20 us7 (by decide) fl_7_81 (rfl) d7_refusal_173 ?_
                          refine lv_if_ne (tgt := 188) hx hb d7_refusal_176 (by decide) (fun c => absurd c_84 c) (fun _ => ?_)
                          refine lv_aload_n hx hb d7_refusal_179 rfl (lv_at hl 2 rfl) ?_
                          refine lv_iload hx hb d7_refusal_180 (lv_at hl 1 rfl) ?_
                          refine sr_vp C0 hB (m7_givableOf hX (S 20 0 28) (by (have kc_75 := le_i c_75); (have kc_77 := in_t c_77); (have l0 : (0 : Int32).toInt = 0 := rfl); (have l1000 : (1000 : Int32).toInt = 1000 := rfl);  first | assumption | omega) (by (have kc_75 := le_i c_75); (have kc_77 := in_t c_77); (have l0 : (0 : Int32).toInt = 0 := rfl); (have l1000 : (1000 : Int32).toInt = 1000 := rfl);  first | assumption | omega)) (hX 20 (by decide)) cf_20 ml_7_133 im_7_givableOf se_7_givableOf in_7 cd_7_givableOf hd7_givableOf ⟨⟨rfl, rfl⟩, by decide, by decide⟩ ⟨Nat.zero_le _, Nat.zero_le _⟩ hl.1 rfl (Nat.le_of_ble_eq_true rfl) d7_refusal_182 ?_
                          refine lv_goto (tgt := 206) hx hb d7_refusal_185 (by decide) ?_
                          refine lv_istore (lv' := [(6, .int (V7_givableOf S A G (S 20 0 28))), (5, .int 0), (4, .int (S 20 0 28)), (0, .ref (ad 20 0)), (1, .int x1), (2, .int x2), (3, .int x3)]) hx hb d7_refusal_206 hl (by decide) rfl (fun ls hl => ?_)
                          refine lv_iload_n hx hb d7_refusal_208 rfl (lv_at hl 4 rfl) ?_
                          refine lv_iload hx hb d7_refusal_209 (lv_at hl 0 rfl) ?_
                          refine lv_icmp_le (tgt := 219) hx hb d7_refusal_211 (by decide) (fun c_93 => ?_) (fun c_93 => ?_)
                          · refine lv_aload_n hx hb d7_refusal_219 rfl (lv_at hl 3 rfl) ?_
                            refine sr_get (v := .int (S 20 0 34)) hx hb hw hown hK hB 34 (hX 20 (by decide)) cf_20 us7 (by decide) fl_7_130 (rfl) d7_refusal_220 ?_
                            refine lv_sipush (v := 300) hx hb d7_refusal_223 (by decide) ?_
                            refine lv_icmp_ne (tgt := 234) hx hb d7_refusal_226 (by decide) (fun c_94 => ?_) (fun c_94 => ?_)
                            · refine lv_iconst (v := 0) hx hb d7_refusal_234 (by decide) ?_
                              exact se_pi C0 (by rw [if_neg c_1, if_neg c_38, if_pos c_75, if_neg c_76, if_neg c_77, if_pos c_79, if_neg c_80, if_neg c_81, if_pos c_82, if_pos c_83, if_pos c_84, if_pos c_91, if_pos c_93, if_neg c_94] at hO; exact hO) d7_refusal_235
                            · refine lv_bipush (v := (-8)) hx hb d7_refusal_229 (by decide) ?_
                              refine lv_goto (tgt := 235) hx hb d7_refusal_231 (by decide) ?_
                              exact se_pi C0 (by rw [if_neg c_1, if_neg c_38, if_pos c_75, if_neg c_76, if_neg c_77, if_pos c_79, if_neg c_80, if_neg c_81, if_pos c_82, if_pos c_83, if_pos c_84, if_pos c_91, if_pos c_93, if_pos c_94] at hO; exact hO) d7_refusal_235
                          · refine lv_bipush (v := (-7)) hx hb d7_refusal_214 (by decide) ?_
                            refine lv_goto (tgt := 235) hx hb d7_refusal_216 (by decide) ?_
                            exact se_pi C0 (by rw [if_neg c_1, if_neg c_38, if_pos c_75, if_neg c_76, if_neg c_77, if_pos c_79, if_neg c_80, if_neg c_81, if_pos c_82, if_pos c_83, if_pos c_84, if_pos c_91, if_neg c_93] at hO; exact hO) d7_refusal_235
                        · refine lv_bipush (v := (-6)) hx hb d7_refusal_169 (by decide) ?_
                          exact se_pi C0 (by rw [if_neg c_1, if_neg c_38, if_pos c_75, if_neg c_76, if_neg c_77, if_pos c_79, if_neg c_80, if_neg c_81, if_pos c_82, if_pos c_83, if_pos c_84, if_neg c_91] at hO; exact hO) d7_refusal_171
                    · refine lv_bipush (v := (-4)) hx hb d7_refusal_146 (by decide) ?_
                      exact se_pi C0 (by rw [if_neg c_1, if_neg c_38, if_pos c_75, if_neg c_76, if_neg c_77, if_pos c_79, if_neg c_80, if_neg c_81, if_pos c_82, if_neg c_83] at hO; exact hO) d7_refusal_148
                  · refine lv_aload_n hx hb d7_refusal_132 rfl (lv_at hl 2 rfl) ?_
                    refine sr_get (v := .int (S 20 0 32)) hx hb hw hown hK hB 32 (hX 20 (by decide)) cf_20 us7 (by decide) fl_7_163 (rfl) d7_refusal_133 ?_
                    refine lv_if_eq (tgt := 146) hx hb d7_refusal_136 (by decide) (fun c_95 => ?_) (fun c_95 => ?_)
                    · refine lv_bipush (v := (-4)) hx hb d7_refusal_146 (by decide) ?_
                      exact se_pi C0 (by rw [if_neg c_1, if_neg c_38, if_pos c_75, if_neg c_76, if_neg c_77, if_pos c_79, if_neg c_80, if_neg c_81, if_neg c_82, if_pos c_95] at hO; exact hO) d7_refusal_148
                    · refine lv_aload_n hx hb d7_refusal_139 rfl (lv_at hl 2 rfl) ?_
                      refine sr_get (v := .int (S 20 0 33)) hx hb hw hown hK hB 33 (hX 20 (by decide)) cf_20 us7 (by decide) fl_7_166 (rfl) d7_refusal_140 ?_
                      refine lv_if_eq (tgt := 149) hx hb d7_refusal_143 (by decide) (fun c_96 => ?_) (fun c_96 => ?_)
                      · refine lv_aload_n hx hb d7_refusal_149 rfl (lv_at hl 2 rfl) ?_
                        refine sr_get (v := .int (S 20 0 27)) hx hb hw hown hK hB 27 (hX 20 (by decide)) cf_20 us7 (by decide) fl_7_81 (rfl) d7_refusal_150 ?_
                        refine lv_if_ne (tgt := 172) hx hb d7_refusal_153 (by decide) (fun c_97 => ?_) (fun c_97 => ?_)
                        · refine lv_aload_n hx hb d7_refusal_172 rfl (lv_at hl 2 rfl) ?_
                          refine sr_get (v := .int (S 20 0 27)) hx hb hw hown hK hB 27 (hX 20 (by decide)) cf_20 us7 (by decide) fl_7_81 (rfl) d7_refusal_173 ?_
                          refine lv_if_ne (tgt := 188) hx hb d7_refusal_176 (by decide) (fun _ => ?_) (fun c => absurd c c_97)
                          refine lv_aload_n hx hb d7_refusal_188 rfl (lv_at hl 2 rfl) ?_
                          refine sr_get (v := .int (S 20 0 27)) hx hb hw hown hK hB 27 (hX 20 (by decide)) cf_20 us7 (by decide) fl_7_81 (rfl) d7_refusal_189 ?_
                          refine lv_iconst (v := 3) hx hb d7_refusal_192 (by decide) ?_
                          refine lv_icmp_ne (tgt := 205) hx hb d7_refusal_193 (by decide) (fun c_99 => ?_) (fun c_99 => ?_)
                          · refine lv_iload_n hx hb d7_refusal_205 rfl (lv_at hl 3 rfl) ?_
                            refine lv_istore (lv' := [(6, .int x1), (5, .int 0), (4, .int (S 20 0 28)), (0, .ref (ad 20 0)), (1, .int x1), (2, .int x2), (3, .int x3)]) hx hb d7_refusal_206 hl (by decide) rfl (fun ls hl => ?_)
                            refine lv_iload_n hx hb d7_refusal_208 rfl (lv_at hl 4 rfl) ?_
                            refine lv_iload hx hb d7_refusal_209 (lv_at hl 0 rfl) ?_
                            refine lv_icmp_le (tgt := 219) hx hb d7_refusal_211 (by decide) (fun c_100 => ?_) (fun c_100 => ?_)
                            · refine lv_aload_n hx hb d7_refusal_219 rfl (lv_at hl 3 rfl) ?_
                              refine sr_get (v := .int (S 20 0 34)) hx hb hw hown hK hB 34 (hX 20 (by decide)) cf_20 us7 (by decide) fl_7_130 (rfl) d7_refusal_220 ?_
                              refine lv_sipush (v := 300) hx hb d7_refusal_223 (by decide) ?_
                              refine lv_icmp_ne (tgt := 234) hx hb d7_refusal_226 (by decide) (fun c_101 => ?_) (fun c_101 => ?_)
                              · refine lv_iconst (v := 0) hx hb d7_refusal_234 (by decide) ?_
                                exact se_pi C0 (by rw [if_neg c_1, if_neg c_38, if_pos c_75, if_neg c_76, if_neg c_77, if_pos c_79, if_neg c_80, if_neg c_81, if_neg c_82, if_neg c_95, if_pos c_96, if_neg c_97, if_neg c_99, if_pos c_100, if_neg c_101] at hO; exact hO) d7_refusal_235
                              · refine lv_bipush (v := (-8)) hx hb d7_refusal_229 (by decide) ?_
                                refine lv_goto (tgt := 235) hx hb d7_refusal_231 (by decide) ?_
                                exact se_pi C0 (by rw [if_neg c_1, if_neg c_38, if_pos c_75, if_neg c_76, if_neg c_77, if_pos c_79, if_neg c_80, if_neg c_81, if_neg c_82, if_neg c_95, if_pos c_96, if_neg c_97, if_neg c_99, if_pos c_100, if_pos c_101] at hO; exact hO) d7_refusal_235
                            · refine lv_bipush (v := (-7)) hx hb d7_refusal_214 (by decide) ?_
                              refine lv_goto (tgt := 235) hx hb d7_refusal_216 (by decide) ?_
                              exact se_pi C0 (by rw [if_neg c_1, if_neg c_38, if_pos c_75, if_neg c_76, if_neg c_77, if_pos c_79, if_neg c_80, if_neg c_81, if_neg c_82, if_neg c_95, if_pos c_96, if_neg c_97, if_neg c_99, if_neg c_100] at hO; exact hO) d7_refusal_235
                          · refine lv_aload_n hx hb d7_refusal_196 rfl (lv_at hl 2 rfl) ?_
                            refine lv_iload hx hb d7_refusal_197 (lv_at hl 1 rfl) ?_
                            refine sr_vp C0 hB (m7_bookOf hX (S 20 0 28) (by (have kc_75 := le_i c_75); (have kc_77 := in_t c_77); (have l0 : (0 : Int32).toInt = 0 := rfl); (have l1000 : (1000 : Int32).toInt = 1000 := rfl);  first | assumption | omega) (by (have kc_75 := le_i c_75); (have kc_77 := in_t c_77); (have l0 : (0 : Int32).toInt = 0 := rfl); (have l1000 : (1000 : Int32).toInt = 1000 := rfl);  first | assumption | omega)) (hX 20 (by decide)) cf_20 ml_7_169 im_7_bookOf se_7_bookOf in_7 cd_7_bookOf hd7_bookOf ⟨⟨rfl, rfl⟩, by decide, by decide⟩ ⟨Nat.zero_le _, Nat.zero_le _⟩ hl.1 rfl (Nat.le_of_ble_eq_true rfl) d7_refusal_199 ?_
                            refine lv_goto (tgt := 206) hx hb d7_refusal_202 (by decide) ?_
                            refine lv_istore (lv' := [(6, .int (V7_bookOf S A G (S 20 0 28))), (5, .int 0), (4, .int (S 20 0 28)), (0, .ref (ad 20 0)), (1, .int x1), (2, .int x2), (3, .int x3)]) hx hb d7_refusal_206 hl (by decide) rfl (fun ls hl => ?_)
                            refine lv_iload_n hx hb d7_refusal_208 rfl (lv_at hl 4 rfl) ?_
                            refine lv_iload hx hb d7_refusal_209 (lv_at hl 0 rfl) ?_
                            refine lv_icmp_le (tgt := 219) hx hb d7_refusal_211 (by decide) (fun c_102 => ?_) (fun c_102 => ?_)
                            · refine lv_aload_n hx hb d7_refusal_219 rfl (lv_at hl 3 rfl) ?_
                              refine sr_get (v := .int (S 20 0 34)) hx hb hw hown hK hB 34 (hX 20 (by decide)) cf_20 us7 (by decide) fl_7_130 (rfl) d7_refusal_220 ?_
                              refine lv_sipush (v := 300) hx hb d7_refusal_223 (by decide) ?_
                              refine lv_icmp_ne (tgt := 234) hx hb d7_refusal_226 (by decide) (fun c_103 => ?_) (fun c_103 => ?_)
                              · refine lv_iconst (v := 0) hx hb d7_refusal_234 (by decide) ?_
                                exact se_pi C0 (by rw [if_neg c_1, if_neg c_38, if_pos c_75, if_neg c_76, if_neg c_77, if_pos c_79, if_neg c_80, if_neg c_81, if_neg c_82, if_neg c_95, if_pos c_96, if_neg c_97, if_pos c_99, if_pos c_102, if_neg c_103] at hO; exact hO) d7_refusal_235
                              · refine lv_bipush (v := (-8)) hx hb d7_refusal_229 (by decide) ?_
                                refine lv_goto (tgt := 235) hx hb d7_refusal_231 (by decide) ?_
                                exact se_pi C0 (by rw [if_neg c_1, if_neg c_38, if_pos c_75, if_neg c_76, if_neg c_77, if_pos c_79, if_neg c_80, if_neg c_81, if_neg c_82, if_neg c_95, if_pos c_96, if_neg c_97, if_pos c_99, if_pos c_102, if_pos c_103] at hO; exact hO) d7_refusal_235
                            · refine lv_bipush (v := (-7)) hx hb d7_refusal_214 (by decide) ?_
                              refine lv_goto (tgt := 235) hx hb d7_refusal_216 (by decide) ?_
                              exact se_pi C0 (by rw [if_neg c_1, if_neg c_38, if_pos c_75, if_neg c_76, if_neg c_77, if_pos c_79, if_neg c_80, if_neg c_81, if_neg c_82, if_neg c_95, if_pos c_96, if_neg c_97, if_pos c_99, if_neg c_102] at hO; exact hO) d7_refusal_235
                        · refine lv_iload_n hx hb d7_refusal_156 rfl (lv_at hl 3 rfl) ?_
                          refine lv_aload_n hx hb d7_refusal_157 rfl (lv_at hl 2 rfl) ?_
                          refine sr_get (v := .ref (ad 43 0)) hx hb hw hown hK hB 22 (hX 20 (by decide)) cf_20 us7 (by decide) fl_7_66 (rfl) d7_refusal_158 ?_
                          refine lv_aload_n hx hb d7_refusal_161 rfl (lv_at hl 2 rfl) ?_
                          refine sr_get (v := .int (S 20 0 29)) hx hb hw hown hK hB 29 (hX 20 (by decide)) cf_20 us7 (by decide) fl_7_124 (rfl) d7_refusal_162 ?_
                          refine sr_iald (v := A 43 0 ((S 20 0 29).toNatClampNeg)) hx hb hK hB (hX 43 (by decide)) rfl rfl (by (refine vp_in_iff.mpr ?_); (show 0 ≤ (S 20 0 29).toInt ∧ (S 20 0 29).toInt < ((60 : Nat) : Int)); (have qs := hso (by assumption));  omega) d7_refusal_165 (rfl) ?_
                          refine lv_icmp_le (tgt := 172) hx hb d7_refusal_166 (by decide) (fun c_104 => ?_) (fun c_104 => ?_)
                          · refine lv_aload_n hx hb d7_refusal_172 rfl (lv_at hl 2 rfl) ?_
                            refine sr_get (v := .int (S 20 0 27)) hx hb hw hown hK hB 27 (hX 20 (by decide)) cf_20 us7 (by decide) fl_7_81 (rfl) d7_refusal_173 ?_
                            refine lv_if_ne (tgt := 188) hx hb d7_refusal_176 (by decide) (fun c => absurd c_97 c) (fun _ => ?_)
                            refine lv_aload_n hx hb d7_refusal_179 rfl (lv_at hl 2 rfl) ?_
                            refine lv_iload hx hb d7_refusal_180 (lv_at hl 1 rfl) ?_
                            refine sr_vp C0 hB (m7_givableOf hX (S 20 0 28) (by (have kc_75 := le_i c_75); (have kc_77 := in_t c_77); (have l0 : (0 : Int32).toInt = 0 := rfl); (have l1000 : (1000 : Int32).toInt = 1000 := rfl);  first | assumption | omega) (by (have kc_75 := le_i c_75); (have kc_77 := in_t c_77); (have l0 : (0 : Int32).toInt = 0 := rfl); (have l1000 : (1000 : Int32).toInt = 1000 := rfl);  first | assumption | omega)) (hX 20 (by decide)) cf_20 ml_7_133 im_7_givableOf se_7_givableOf in_7 cd_7_givableOf hd7_givableOf ⟨⟨rfl, rfl⟩, by decide, by decide⟩ ⟨Nat.zero_le _, Nat.zero_le _⟩ hl.1 rfl (Nat.le_of_ble_eq_true rfl) d7_refusal_182 ?_
                            refine lv_goto (tgt := 206) hx hb d7_refusal_185 (by decide) ?_
                            refine lv_istore (lv' := [(6, .int (V7_givableOf S A G (S 20 0 28))), (5, .int 0), (4, .int (S 20 0 28)), (0, .ref (ad 20 0)), (1, .int x1), (2, .int x2), (3, .int x3)]) hx hb d7_refusal_206 hl (by decide) rfl (fun ls hl => ?_)
                            refine lv_iload_n hx hb d7_refusal_208 rfl (lv_at hl 4 rfl) ?_
                            refine lv_iload hx hb d7_refusal_209 (lv_at hl 0 rfl) ?_
                            refine lv_icmp_le (tgt := 219) hx hb d7_refusal_211 (by decide) (fun c_106 => ?_) (fun c_106 => ?_)
                            · refine lv_aload_n hx hb d7_refusal_219 rfl (lv_at hl 3 rfl) ?_
                              refine sr_get (v := .int (S 20 0 34)) hx hb hw hown hK hB 34 (hX 20 (by decide)) cf_20 us7 (by decide) fl_7_130 (rfl) d7_refusal_220 ?_
                              refine lv_sipush (v := 300) hx hb d7_refusal_223 (by decide) ?_
                              refine lv_icmp_ne (tgt := 234) hx hb d7_refusal_226 (by decide) (fun c_107 => ?_) (fun c_107 => ?_)
                              · refine lv_iconst (v := 0) hx hb d7_refusal_234 (by decide) ?_
                                exact se_pi C0 (by rw [if_neg c_1, if_neg c_38, if_pos c_75, if_neg c_76, if_neg c_77, if_pos c_79, if_neg c_80, if_neg c_81, if_neg c_82, if_neg c_95, if_pos c_96, if_pos c_97, if_pos c_104, if_pos c_106, if_neg c_107] at hO; exact hO) d7_refusal_235
                              · refine lv_bipush (v := (-8)) hx hb d7_refusal_229 (by decide) ?_
                                refine lv_goto (tgt := 235) hx hb d7_refusal_231 (by decide) ?_
                                exact se_pi C0 (by rw [if_neg c_1, if_neg c_38, if_pos c_75, if_neg c_76, if_neg c_77, if_pos c_79, if_neg c_80, if_neg c_81, if_neg c_82, if_neg c_95, if_pos c_96, if_pos c_97, if_pos c_104, if_pos c_106, if_pos c_107] at hO; exact hO) d7_refusal_235
                            · refine lv_bipush (v := (-7)) hx hb d7_refusal_214 (by decide) ?_
                              refine lv_goto (tgt := 235) hx hb d7_refusal_216 (by decide) ?_
                              exact se_pi C0 (by rw [if_neg c_1, if_neg c_38, if_pos c_75, if_neg c_76, if_neg c_77, if_pos c_79, if_neg c_80, if_neg c_81, if_neg c_82, if_neg c_95, if_pos c_96, if_pos c_97, if_pos c_104, if_neg c_106] at hO; exact hO) d7_refusal_235
                          · refine lv_bipush (v := (-6)) hx hb d7_refusal_169 (by decide) ?_
                            exact se_pi C0 (by rw [if_neg c_1, if_neg c_38, if_pos c_75, if_neg c_76, if_neg c_77, if_pos c_79, if_neg c_80, if_neg c_81, if_neg c_82, if_neg c_95, if_pos c_96, if_pos c_97, if_neg c_104] at hO; exact hO) d7_refusal_171
                      · refine lv_bipush (v := (-4)) hx hb d7_refusal_146 (by decide) ?_
                        exact se_pi C0 (by rw [if_neg c_1, if_neg c_38, if_pos c_75, if_neg c_76, if_neg c_77, if_pos c_79, if_neg c_80, if_neg c_81, if_neg c_82, if_neg c_95, if_neg c_96] at hO; exact hO) d7_refusal_148
            · refine lv_bipush (v := (-2)) hx hb d7_refusal_107 (by decide) ?_
              exact se_pi C0 (by rw [if_neg c_1, if_neg c_38, if_pos c_75, if_neg c_76, if_neg c_77, if_neg c_79] at hO; exact hO) d7_refusal_109
        · refine lv_iload hx hb d7_refusal_41 (lv_at hl 0 rfl) ?_
          refine lv_if_eq (tgt := 71) hx hb d7_refusal_43 (by decide) (fun _ => ?_) (fun c => absurd (by decide) c)
          refine lv_iconst (v := 0) hx hb d7_refusal_71 (by decide) ?_
          refine lv_istore (lv' := [(5, .int 0), (4, .int (S 20 0 28)), (0, .ref (ad 20 0)), (1, .int x1), (2, .int x2), (3, .int x3)]) hx hb d7_refusal_72 hl (by decide) rfl (fun ls hl => ?_)
          refine lv_iload_n hx hb d7_refusal_74 rfl (lv_at hl 3 rfl) ?_
          refine lv_iconst (v := 0) hx hb d7_refusal_75 (by decide) ?_
          refine lv_sipush (v := 1000) hx hb d7_refusal_76 (by decide) ?_
          refine sr_sp C0 hB (m7_in hX x1 0 1000 ) ml_7_93 st_7_in in_7 cd_7_in hd7_in ⟨⟨rfl, rfl⟩, by decide, by decide⟩ ⟨Nat.zero_le _, Nat.zero_le _⟩ hl.1 rfl (Nat.le_of_ble_eq_true rfl) d7_refusal_79 ?_
          refine lv_if_eq (tgt := 98) hx hb d7_refusal_82 (by decide) (fun c_109 => ?_) (fun c_109 => ?_)
          · refine lv_iconst (v := (-1)) hx hb d7_refusal_98 (by decide) ?_
            exact se_pi C0 (by rw [if_neg c_1, if_neg c_38, if_pos c_75, if_pos c_76, if_pos c_109] at hO; exact hO) d7_refusal_99
          · refine lv_aload_n hx hb d7_refusal_85 rfl (lv_at hl 2 rfl) ?_
            refine sr_get (v := .int (S 20 0 27)) hx hb hw hown hK hB 27 (hX 20 (by decide)) cf_20 us7 (by decide) fl_7_81 (rfl) d7_refusal_86 ?_
            refine lv_iconst (v := 1) hx hb d7_refusal_89 (by decide) ?_
            refine lv_icmp_ne (tgt := 100) hx hb d7_refusal_90 (by decide) (fun c => absurd c_76 c) (fun _ => ?_)
            refine lv_iload hx hb d7_refusal_93 (lv_at hl 0 rfl) ?_
            refine lv_if_ne (tgt := 100) hx hb d7_refusal_95 (by decide) (fun c => absurd (by decide) c) (fun _ => ?_)
            refine lv_iconst (v := (-1)) hx hb d7_refusal_98 (by decide) ?_
            exact se_pi C0 (by rw [if_neg c_1, if_neg c_38, if_pos c_75, if_pos c_76, if_neg c_109] at hO; exact hO) d7_refusal_99
      · refine lv_iconst (v := 1) hx hb d7_refusal_26 (by decide) ?_
        refine lv_goto (tgt := 31) hx hb d7_refusal_27 (by decide) ?_
        refine lv_istore (lv' := [(5, .int 1), (4, .int (S 20 0 28)), (0, .ref (ad 20 0)), (1, .int x1), (2, .int x2), (3, .int x3)]) hx hb d7_refusal_31 hl (by decide) rfl (fun ls hl => ?_)
        refine lv_aload_n hx hb d7_refusal_33 rfl (lv_at hl 2 rfl) ?_
        refine sr_get (v := .int (S 20 0 27)) hx hb hw hown hK hB 27 (hX 20 (by decide)) cf_20 us7 (by decide) fl_7_81 (rfl) d7_refusal_34 ?_
        refine lv_iconst (v := 1) hx hb d7_refusal_37 (by decide) ?_
        refine lv_icmp_ne (tgt := 74) hx hb d7_refusal_38 (by decide) (fun c_112 => ?_) (fun c_112 => ?_)
        · refine lv_iload_n hx hb d7_refusal_74 rfl (lv_at hl 3 rfl) ?_
          refine lv_iconst (v := 0) hx hb d7_refusal_75 (by decide) ?_
          refine lv_sipush (v := 1000) hx hb d7_refusal_76 (by decide) ?_
          refine sr_sp C0 hB (m7_in hX x1 0 1000 ) ml_7_93 st_7_in in_7 cd_7_in hd7_in ⟨⟨rfl, rfl⟩, by decide, by decide⟩ ⟨Nat.zero_le _, Nat.zero_le _⟩ hl.1 rfl (Nat.le_of_ble_eq_true rfl) d7_refusal_79 ?_
          refine lv_if_eq (tgt := 98) hx hb d7_refusal_82 (by decide) (fun c_113 => ?_) (fun c_113 => ?_)
          · refine lv_iconst (v := (-1)) hx hb d7_refusal_98 (by decide) ?_
            exact se_pi C0 (by rw [if_neg c_1, if_neg c_38, if_neg c_75, if_neg c_112, if_pos c_113] at hO; exact hO) d7_refusal_99
          · refine lv_aload_n hx hb d7_refusal_85 rfl (lv_at hl 2 rfl) ?_
            refine sr_get (v := .int (S 20 0 27)) hx hb hw hown hK hB 27 (hX 20 (by decide)) cf_20 us7 (by decide) fl_7_81 (rfl) d7_refusal_86 ?_
            refine lv_iconst (v := 1) hx hb d7_refusal_89 (by decide) ?_
            refine lv_icmp_ne (tgt := 100) hx hb d7_refusal_90 (by decide) (fun _ => ?_) (fun c => absurd c c_112)
            refine lv_aload_n hx hb d7_refusal_100 rfl (lv_at hl 2 rfl) ?_
            refine sr_get (v := .int (S 20 0 6)) hx hb hw hown hK hB 6 (hX 20 (by decide)) cf_20 us7 (by decide) fl_7_26 (rfl) d7_refusal_101 ?_
            refine lv_if_ge (tgt := 110) hx hb d7_refusal_104 (by decide) (fun c_115 => ?_) (fun c_115 => ?_)
            · refine lv_aload_n hx hb d7_refusal_110 rfl (lv_at hl 2 rfl) ?_
              refine sr_get (v := .int (S 20 0 27)) hx hb hw hown hK hB 27 (hX 20 (by decide)) cf_20 us7 (by decide) fl_7_81 (rfl) d7_refusal_111 ?_
              refine lv_if_lt (tgt := 146) hx hb d7_refusal_114 (by decide) (fun c_116 => ?_) (fun c_116 => ?_)
              · refine lv_bipush (v := (-4)) hx hb d7_refusal_146 (by decide) ?_
                exact se_pi C0 (by rw [if_neg c_1, if_neg c_38, if_neg c_75, if_neg c_112, if_neg c_113, if_pos c_115, if_pos c_116] at hO; exact hO) d7_refusal_148
              · refine lv_aload_n hx hb d7_refusal_117 rfl (lv_at hl 2 rfl) ?_
                refine sr_get (v := .int (S 20 0 27)) hx hb hw hown hK hB 27 (hX 20 (by decide)) cf_20 us7 (by decide) fl_7_81 (rfl) d7_refusal_118 ?_
                refine lv_iconst (v := 2) hx hb d7_refusal_121 (by decide) ?_
                refine lv_icmp_eq (tgt := 146) hx hb d7_refusal_122 (by decide) (fun c_117 => ?_) (fun c_117 => ?_)
                · refine lv_bipush (v := (-4)) hx hb d7_refusal_146 (by decide) ?_
                  exact se_pi C0 (by rw [if_neg c_1, if_neg c_38, if_neg c_75, if_neg c_112, if_neg c_113, if_pos c_115, if_neg c_116, if_pos c_117] at hO; exact hO) d7_refusal_148
                · refine lv_aload_n hx hb d7_refusal_125 rfl (lv_at hl 2 rfl) ?_
                  refine sr_get (v := .int (S 20 0 31)) hx hb hw hown hK hB 31 (hX 20 (by decide)) cf_20 us7 (by decide) fl_7_159 (rfl) d7_refusal_126 ?_
                  refine lv_if_eq (tgt := 139) hx hb d7_refusal_129 (by decide) (fun c_118 => ?_) (fun c_118 => ?_)
                  · refine lv_aload_n hx hb d7_refusal_139 rfl (lv_at hl 2 rfl) ?_
                    refine sr_get (v := .int (S 20 0 33)) hx hb hw hown hK hB 33 (hX 20 (by decide)) cf_20 us7 (by decide) fl_7_166 (rfl) d7_refusal_140 ?_
                    refine lv_if_eq (tgt := 149) hx hb d7_refusal_143 (by decide) (fun c_119 => ?_) (fun c_119 => ?_)
                    · refine lv_aload_n hx hb d7_refusal_149 rfl (lv_at hl 2 rfl) ?_
                      refine sr_get (v := .int (S 20 0 27)) hx hb hw hown hK hB 27 (hX 20 (by decide)) cf_20 us7 (by decide) fl_7_81 (rfl) d7_refusal_150 ?_
                      refine lv_if_ne (tgt := 172) hx hb d7_refusal_153 (by decide) (fun c_120 => ?_) (fun c_120 => ?_)
                      · refine lv_aload_n hx hb d7_refusal_172 rfl (lv_at hl 2 rfl) ?_
                        refine sr_get (v := .int (S 20 0 27)) hx hb hw hown hK hB 27 (hX 20 (by decide)) cf_20 us7 (by decide) fl_7_81 (rfl) d7_refusal_173 ?_
                        refine lv_if_ne (tgt := 188) hx hb d7_refusal_176 (by decide) (fun _ => ?_) (fun c => absurd c c_120)
                        refine lv_aload_n hx hb d7_refusal_188 rfl (lv_at hl 2 rfl) ?_
                        refine sr_get (v := .int (S 20 0 27)) hx hb hw hown hK hB 27 (hX 20 (by decide)) cf_20 us7 (by decide) fl_7_81 (rfl) d7_refusal_189 ?_
                        refine lv_iconst (v := 3) hx hb d7_refusal_192 (by decide) ?_
                        refine lv_icmp_ne (tgt := 205) hx hb d7_refusal_193 (by decide) (fun c_122 => ?_) (fun c_122 => ?_)
                        · refine lv_iload_n hx hb d7_refusal_205 rfl (lv_at hl 3 rfl) ?_
                          refine lv_istore (lv' := [(6, .int x1), (5, .int 1), (4, .int (S 20 0 28)), (0, .ref (ad 20 0)), (1, .int x1), (2, .int x2), (3, .int x3)]) hx hb d7_refusal_206 hl (by decide) rfl (fun ls hl => ?_)
                          refine lv_iload_n hx hb d7_refusal_208 rfl (lv_at hl 4 rfl) ?_
                          refine lv_iload hx hb d7_refusal_209 (lv_at hl 0 rfl) ?_
                          refine lv_icmp_le (tgt := 219) hx hb d7_refusal_211 (by decide) (fun c_123 => ?_) (fun c_123 => ?_)
                          · refine lv_aload_n hx hb d7_refusal_219 rfl (lv_at hl 3 rfl) ?_
                            refine sr_get (v := .int (S 20 0 34)) hx hb hw hown hK hB 34 (hX 20 (by decide)) cf_20 us7 (by decide) fl_7_130 (rfl) d7_refusal_220 ?_
                            refine lv_sipush (v := 300) hx hb d7_refusal_223 (by decide) ?_
                            refine lv_icmp_ne (tgt := 234) hx hb d7_refusal_226 (by decide) (fun c_124 => ?_) (fun c_124 => ?_)
                            · refine lv_iconst (v := 0) hx hb d7_refusal_234 (by decide) ?_
                              exact se_pi C0 (by rw [if_neg c_1, if_neg c_38, if_neg c_75, if_neg c_112, if_neg c_113, if_pos c_115, if_neg c_116, if_neg c_117, if_pos c_118, if_pos c_119, if_neg c_120, if_neg c_122, if_pos c_123, if_neg c_124] at hO; exact hO) d7_refusal_235
                            · refine lv_bipush (v := (-8)) hx hb d7_refusal_229 (by decide) ?_
                              refine lv_goto (tgt := 235) hx hb d7_refusal_231 (by decide) ?_
                              exact se_pi C0 (by rw [if_neg c_1, if_neg c_38, if_neg c_75, if_neg c_112, if_neg c_113, if_pos c_115, if_neg c_116, if_neg c_117, if_pos c_118, if_pos c_119, if_neg c_120, if_neg c_122, if_pos c_123, if_pos c_124] at hO; exact hO) d7_refusal_235
                          · refine lv_bipush (v := (-7)) hx hb d7_refusal_214 (by decide) ?_
                            refine lv_goto (tgt := 235) hx hb d7_refusal_216 (by decide) ?_
                            exact se_pi C0 (by rw [if_neg c_1, if_neg c_38, if_neg c_75, if_neg c_112, if_neg c_113, if_pos c_115, if_neg c_116, if_neg c_117, if_pos c_118, if_pos c_119, if_neg c_120, if_neg c_122, if_neg c_123] at hO; exact hO) d7_refusal_235
                        · refine lv_aload_n hx hb d7_refusal_196 rfl (lv_at hl 2 rfl) ?_
                          refine lv_iload hx hb d7_refusal_197 (lv_at hl 1 rfl) ?_
                          refine sr_vp C0 hB (m7_bookOf hX (S 20 0 28) (by (have kc_75 := nle_i c_75); (have kc_113 := in_t c_113); (have l0 : (0 : Int32).toInt = 0 := rfl); (have l1000 : (1000 : Int32).toInt = 1000 := rfl);  first | assumption | omega) (by (have kc_75 := nle_i c_75); (have kc_113 := in_t c_113); (have l0 : (0 : Int32).toInt = 0 := rfl); (have l1000 : (1000 : Int32).toInt = 1000 := rfl);  first | assumption | omega)) (hX 20 (by decide)) cf_20 ml_7_169 im_7_bookOf se_7_bookOf in_7 cd_7_bookOf hd7_bookOf ⟨⟨rfl, rfl⟩, by decide, by decide⟩ ⟨Nat.zero_le _, Nat.zero_le _⟩ hl.1 rfl (Nat.le_of_ble_eq_true rfl) d7_refusal_199 ?_
                          refine lv_goto (tgt := 206) hx hb d7_refusal_202 (by decide) ?_
                          refine lv_istore (lv' := [(6, .int (V7_bookOf S A G (S 20 0 28))), (5, .int 1), (4, .int (S 20 0 28)), (0, .ref (ad 20 0)), (1, .int x1), (2, .int x2), (3, .int x3)]) hx hb d7_refusal_206 hl (by decide) rfl (fun ls hl => ?_)
                          refine lv_iload_n hx hb d7_refusal_208 rfl (lv_at hl 4 rfl) ?_
                          refine lv_iload hx hb d7_refusal_209 (lv_at hl 0 rfl) ?_
                          refine lv_icmp_le (tgt := 219) hx hb d7_refusal_211 (by decide) (fun c_125 => ?_) (fun c_125 => ?_)
                          · refine lv_aload_n hx hb d7_refusal_219 rfl (lv_at hl 3 rfl) ?_
                            refine sr_get (v := .int (S 20 0 34)) hx hb hw hown hK hB 34 (hX 20 (by decide)) cf_20 us7 (by decide) fl_7_130 (rfl) d7_refusal_220 ?_
                            refine lv_sipush (v := 300) hx hb d7_refusal_223 (by decide) ?_
                            refine lv_icmp_ne (tgt := 234) hx hb d7_refusal_226 (by decide) (fun c_126 => ?_) (fun c_126 => ?_)
                            · refine lv_iconst (v := 0) hx hb d7_refusal_234 (by decide) ?_
                              exact se_pi C0 (by rw [if_neg c_1, if_neg c_38, if_neg c_75, if_neg c_112, if_neg c_113, if_pos c_115, if_neg c_116, if_neg c_117, if_pos c_118, if_pos c_119, if_neg c_120, if_pos c_122, if_pos c_125, if_neg c_126] at hO; exact hO) d7_refusal_235
                            · refine lv_bipush (v := (-8)) hx hb d7_refusal_229 (by decide) ?_
                              refine lv_goto (tgt := 235) hx hb d7_refusal_231 (by decide) ?_
                              exact se_pi C0 (by rw [if_neg c_1, if_neg c_38, if_neg c_75, if_neg c_112, if_neg c_113, if_pos c_115, if_neg c_116, if_neg c_117, if_pos c_118, if_pos c_119, if_neg c_120, if_pos c_122, if_pos c_125, if_pos c_126] at hO; exact hO) d7_refusal_235
                          · refine lv_bipush (v := (-7)) hx hb d7_refusal_214 (by decide) ?_
                            refine lv_goto (tgt := 235) hx hb d7_refusal_216 (by decide) ?_
                            exact se_pi C0 (by rw [if_neg c_1, if_neg c_38, if_neg c_75, if_neg c_112, if_neg c_113, if_pos c_115, if_neg c_116, if_neg c_117, if_pos c_118, if_pos c_119, if_neg c_120, if_pos c_122, if_neg c_125] at hO; exact hO) d7_refusal_235
                      · refine lv_iload_n hx hb d7_refusal_156 rfl (lv_at hl 3 rfl) ?_
                        refine lv_aload_n hx hb d7_refusal_157 rfl (lv_at hl 2 rfl) ?_
                        refine sr_get (v := .ref (ad 43 0)) hx hb hw hown hK hB 22 (hX 20 (by decide)) cf_20 us7 (by decide) fl_7_66 (rfl) d7_refusal_158 ?_
                        refine lv_aload_n hx hb d7_refusal_161 rfl (lv_at hl 2 rfl) ?_
                        refine sr_get (v := .int (S 20 0 29)) hx hb hw hown hK hB 29 (hX 20 (by decide)) cf_20 us7 (by decide) fl_7_124 (rfl) d7_refusal_162 ?_
                        refine sr_iald (v := A 43 0 ((S 20 0 29).toNatClampNeg)) hx hb hK hB (hX 43 (by decide)) rfl rfl (by (refine vp_in_iff.mpr ?_); (show 0 ≤ (S 20 0 29).toInt ∧ (S 20 0 29).toInt < ((60 : Nat) : Int)); (have qs := hso (by assumption));  omega) d7_refusal_165 (rfl) ?_
                        refine lv_icmp_le (tgt := 172) hx hb d7_refusal_166 (by decide) (fun c_127 => ?_) (fun c_127 => ?_)
                        · refine lv_aload_n hx hb d7_refusal_172 rfl (lv_at hl 2 rfl) ?_
                          refine sr_get (v := .int (S 20 0 27)) hx hb hw hown hK hB 27 (hX 20 (by decide)) cf_20 us7 (by decide) fl_7_81 (rfl) d7_refusal_173 ?_
                          refine lv_if_ne (tgt := 188) hx hb d7_refusal_176 (by decide) (fun c => absurd c_120 c) (fun _ => ?_)
                          refine lv_aload_n hx hb d7_refusal_179 rfl (lv_at hl 2 rfl) ?_
                          refine lv_iload hx hb d7_refusal_180 (lv_at hl 1 rfl) ?_
                          refine sr_vp C0 hB (m7_givableOf hX (S 20 0 28) (by (have kc_75 := nle_i c_75); (have kc_113 := in_t c_113); (have l0 : (0 : Int32).toInt = 0 := rfl); (have l1000 : (1000 : Int32).toInt = 1000 := rfl);  first | assumption | omega) (by (have kc_75 := nle_i c_75); (have kc_113 := in_t c_113); (have l0 : (0 : Int32).toInt = 0 := rfl); (have l1000 : (1000 : Int32).toInt = 1000 := rfl);  first | assumption | omega)) (hX 20 (by decide)) cf_20 ml_7_133 im_7_givableOf se_7_givableOf in_7 cd_7_givableOf hd7_givableOf ⟨⟨rfl, rfl⟩, by decide, by decide⟩ ⟨Nat.zero_le _, Nat.zero_le _⟩ hl.1 rfl (Nat.le_of_ble_eq_true rfl) d7_refusal_182 ?_
                          refine lv_goto (tgt := 206) hx hb d7_refusal_185 (by decide) ?_
                          refine lv_istore (lv' := [(6, .int (V7_givableOf S A G (S 20 0 28))), (5, .int 1), (4, .int (S 20 0 28)), (0, .ref (ad 20 0)), (1, .int x1), (2, .int x2), (3, .int x3)]) hx hb d7_refusal_206 hl (by decide) rfl (fun ls hl => ?_)
                          refine lv_iload_n hx hb d7_refusal_208 rfl (lv_at hl 4 rfl) ?_
                          refine lv_iload hx hb d7_refusal_209 (lv_at hl 0 rfl) ?_
                          refine lv_icmp_le (tgt := 219) hx hb d7_refusal_211 (by decide) (fun c_129 => ?_) (fun c_129 => ?_)
                          · refine lv_aload_n hx hb d7_refusal_219 rfl (lv_at hl 3 rfl) ?_
                            refine sr_get (v := .int (S 20 0 34)) hx hb hw hown hK hB 34 (hX 20 (by decide)) cf_20 us7 (by decide) fl_7_130 (rfl) d7_refusal_220 ?_
                            refine lv_sipush (v := 300) hx hb d7_refusal_223 (by decide) ?_
                            refine lv_icmp_ne (tgt := 234) hx hb d7_refusal_226 (by decide) (fun c_130 => ?_) (fun c_130 => ?_)
                            · refine lv_iconst (v := 0) hx hb d7_refusal_234 (by decide) ?_
                              exact se_pi C0 (by rw [if_neg c_1, if_neg c_38, if_neg c_75, if_neg c_112, if_neg c_113, if_pos c_115, if_neg c_116, if_neg c_117, if_pos c_118, if_pos c_119, if_pos c_120, if_pos c_127, if_pos c_129, if_neg c_130] at hO; exact hO) d7_refusal_235
                            · refine lv_bipush (v := (-8)) hx hb d7_refusal_229 (by decide) ?_
                              refine lv_goto (tgt := 235) hx hb d7_refusal_231 (by decide) ?_
                              exact se_pi C0 (by rw [if_neg c_1, if_neg c_38, if_neg c_75, if_neg c_112, if_neg c_113, if_pos c_115, if_neg c_116, if_neg c_117, if_pos c_118, if_pos c_119, if_pos c_120, if_pos c_127, if_pos c_129, if_pos c_130] at hO; exact hO) d7_refusal_235
                          · refine lv_bipush (v := (-7)) hx hb d7_refusal_214 (by decide) ?_
                            refine lv_goto (tgt := 235) hx hb d7_refusal_216 (by decide) ?_
                            exact se_pi C0 (by rw [if_neg c_1, if_neg c_38, if_neg c_75, if_neg c_112, if_neg c_113, if_pos c_115, if_neg c_116, if_neg c_117, if_pos c_118, if_pos c_119, if_pos c_120, if_pos c_127, if_neg c_129] at hO; exact hO) d7_refusal_235
                        · refine lv_bipush (v := (-6)) hx hb d7_refusal_169 (by decide) ?_
                          exact se_pi C0 (by rw [if_neg c_1, if_neg c_38, if_neg c_75, if_neg c_112, if_neg c_113, if_pos c_115, if_neg c_116, if_neg c_117, if_pos c_118, if_pos c_119, if_pos c_120, if_neg c_127] at hO; exact hO) d7_refusal_171
                    · refine lv_bipush (v := (-4)) hx hb d7_refusal_146 (by decide) ?_
                      exact se_pi C0 (by rw [if_neg c_1, if_neg c_38, if_neg c_75, if_neg c_112, if_neg c_113, if_pos c_115, if_neg c_116, if_neg c_117, if_pos c_118, if_neg c_119] at hO; exact hO) d7_refusal_148
                  · refine lv_aload_n hx hb d7_refusal_132 rfl (lv_at hl 2 rfl) ?_
                    refine sr_get (v := .int (S 20 0 32)) hx hb hw hown hK hB 32 (hX 20 (by decide)) cf_20 us7 (by decide) fl_7_163 (rfl) d7_refusal_133 ?_
                    refine lv_if_eq (tgt := 146) hx hb d7_refusal_136 (by decide) (fun c_131 => ?_) (fun c_131 => ?_)
                    · refine lv_bipush (v := (-4)) hx hb d7_refusal_146 (by decide) ?_
                      exact se_pi C0 (by rw [if_neg c_1, if_neg c_38, if_neg c_75, if_neg c_112, if_neg c_113, if_pos c_115, if_neg c_116, if_neg c_117, if_neg c_118, if_pos c_131] at hO; exact hO) d7_refusal_148
                    · refine lv_aload_n hx hb d7_refusal_139 rfl (lv_at hl 2 rfl) ?_
                      refine sr_get (v := .int (S 20 0 33)) hx hb hw hown hK hB 33 (hX 20 (by decide)) cf_20 us7 (by decide) fl_7_166 (rfl) d7_refusal_140 ?_
                      refine lv_if_eq (tgt := 149) hx hb d7_refusal_143 (by decide) (fun c_132 => ?_) (fun c_132 => ?_)
                      · refine lv_aload_n hx hb d7_refusal_149 rfl (lv_at hl 2 rfl) ?_
                        refine sr_get (v := .int (S 20 0 27)) hx hb hw hown hK hB 27 (hX 20 (by decide)) cf_20 us7 (by decide) fl_7_81 (rfl) d7_refusal_150 ?_
                        refine lv_if_ne (tgt := 172) hx hb d7_refusal_153 (by decide) (fun c_133 => ?_) (fun c_133 => ?_)
                        · refine lv_aload_n hx hb d7_refusal_172 rfl (lv_at hl 2 rfl) ?_
                          refine sr_get (v := .int (S 20 0 27)) hx hb hw hown hK hB 27 (hX 20 (by decide)) cf_20 us7 (by decide) fl_7_81 (rfl) d7_refusal_173 ?_
                          refine lv_if_ne (tgt := 188) hx hb d7_refusal_176 (by decide) (fun _ => ?_) (fun c => absurd c c_133)
                          refine lv_aload_n hx hb d7_refusal_188 rfl (lv_at hl 2 rfl) ?_
                          refine sr_get (v := .int (S 20 0 27)) hx hb hw hown hK hB 27 (hX 20 (by decide)) cf_20 us7 (by decide) fl_7_81 (rfl) d7_refusal_189 ?_
                          refine lv_iconst (v := 3) hx hb d7_refusal_192 (by decide) ?_
                          refine lv_icmp_ne (tgt := 205) hx hb d7_refusal_193 (by decide) (fun c_135 => ?_) (fun c_135 => ?_)
                          · refine lv_iload_n hx hb d7_refusal_205 rfl (lv_at hl 3 rfl) ?_
                            refine lv_istore (lv' := [(6, .int x1), (5, .int 1), (4, .int (S 20 0 28)), (0, .ref (ad 20 0)), (1, .int x1), (2, .int x2), (3, .int x3)]) hx hb d7_refusal_206 hl (by decide) rfl (fun ls hl => ?_)
                            refine lv_iload_n hx hb d7_refusal_208 rfl (lv_at hl 4 rfl) ?_
                            refine lv_iload hx hb d7_refusal_209 (lv_at hl 0 rfl) ?_
                            refine lv_icmp_le (tgt := 219) hx hb d7_refusal_211 (by decide) (fun c_136 => ?_) (fun c_136 => ?_)
                            · refine lv_aload_n hx hb d7_refusal_219 rfl (lv_at hl 3 rfl) ?_
                              refine sr_get (v := .int (S 20 0 34)) hx hb hw hown hK hB 34 (hX 20 (by decide)) cf_20 us7 (by decide) fl_7_130 (rfl) d7_refusal_220 ?_
                              refine lv_sipush (v := 300) hx hb d7_refusal_223 (by decide) ?_
                              refine lv_icmp_ne (tgt := 234) hx hb d7_refusal_226 (by decide) (fun c_137 => ?_) (fun c_137 => ?_)
                              · refine lv_iconst (v := 0) hx hb d7_refusal_234 (by decide) ?_
                                exact se_pi C0 (by rw [if_neg c_1, if_neg c_38, if_neg c_75, if_neg c_112, if_neg c_113, if_pos c_115, if_neg c_116, if_neg c_117, if_neg c_118, if_neg c_131, if_pos c_132, if_neg c_133, if_neg c_135, if_pos c_136, if_neg c_137] at hO; exact hO) d7_refusal_235
                              · refine lv_bipush (v := (-8)) hx hb d7_refusal_229 (by decide) ?_
                                refine lv_goto (tgt := 235) hx hb d7_refusal_231 (by decide) ?_
                                exact se_pi C0 (by rw [if_neg c_1, if_neg c_38, if_neg c_75, if_neg c_112, if_neg c_113, if_pos c_115, if_neg c_116, if_neg c_117, if_neg c_118, if_neg c_131, if_pos c_132, if_neg c_133, if_neg c_135, if_pos c_136, if_pos c_137] at hO; exact hO) d7_refusal_235
                            · refine lv_bipush (v := (-7)) hx hb d7_refusal_214 (by decide) ?_
                              refine lv_goto (tgt := 235) hx hb d7_refusal_216 (by decide) ?_
                              exact se_pi C0 (by rw [if_neg c_1, if_neg c_38, if_neg c_75, if_neg c_112, if_neg c_113, if_pos c_115, if_neg c_116, if_neg c_117, if_neg c_118, if_neg c_131, if_pos c_132, if_neg c_133, if_neg c_135, if_neg c_136] at hO; exact hO) d7_refusal_235
                          · refine lv_aload_n hx hb d7_refusal_196 rfl (lv_at hl 2 rfl) ?_
                            refine lv_iload hx hb d7_refusal_197 (lv_at hl 1 rfl) ?_
                            refine sr_vp C0 hB (m7_bookOf hX (S 20 0 28) (by (have kc_75 := nle_i c_75); (have kc_113 := in_t c_113); (have l0 : (0 : Int32).toInt = 0 := rfl); (have l1000 : (1000 : Int32).toInt = 1000 := rfl);  first | assumption | omega) (by (have kc_75 := nle_i c_75); (have kc_113 := in_t c_113); (have l0 : (0 : Int32).toInt = 0 := rfl); (have l1000 : (1000 : Int32).toInt = 1000 := rfl);  first | assumption | omega)) (hX 20 (by decide)) cf_20 ml_7_169 im_7_bookOf se_7_bookOf in_7 cd_7_bookOf hd7_bookOf ⟨⟨rfl, rfl⟩, by decide, by decide⟩ ⟨Nat.zero_le _, Nat.zero_le _⟩ hl.1 rfl (Nat.le_of_ble_eq_true rfl) d7_refusal_199 ?_
                            refine lv_goto (tgt := 206) hx hb d7_refusal_202 (by decide) ?_
                            refine lv_istore (lv' := [(6, .int (V7_bookOf S A G (S 20 0 28))), (5, .int 1), (4, .int (S 20 0 28)), (0, .ref (ad 20 0)), (1, .int x1), (2, .int x2), (3, .int x3)]) hx hb d7_refusal_206 hl (by decide) rfl (fun ls hl => ?_)
                            refine lv_iload_n hx hb d7_refusal_208 rfl (lv_at hl 4 rfl) ?_
                            refine lv_iload hx hb d7_refusal_209 (lv_at hl 0 rfl) ?_
                            refine lv_icmp_le (tgt := 219) hx hb d7_refusal_211 (by decide) (fun c_138 => ?_) (fun c_138 => ?_)
                            · refine lv_aload_n hx hb d7_refusal_219 rfl (lv_at hl 3 rfl) ?_
                              refine sr_get (v := .int (S 20 0 34)) hx hb hw hown hK hB 34 (hX 20 (by decide)) cf_20 us7 (by decide) fl_7_130 (rfl) d7_refusal_220 ?_
                              refine lv_sipush (v := 300) hx hb d7_refusal_223 (by decide) ?_
                              refine lv_icmp_ne (tgt := 234) hx hb d7_refusal_226 (by decide) (fun c_139 => ?_) (fun c_139 => ?_)
                              · refine lv_iconst (v := 0) hx hb d7_refusal_234 (by decide) ?_
                                exact se_pi C0 (by rw [if_neg c_1, if_neg c_38, if_neg c_75, if_neg c_112, if_neg c_113, if_pos c_115, if_neg c_116, if_neg c_117, if_neg c_118, if_neg c_131, if_pos c_132, if_neg c_133, if_pos c_135, if_pos c_138, if_neg c_139] at hO; exact hO) d7_refusal_235
                              · refine lv_bipush (v := (-8)) hx hb d7_refusal_229 (by decide) ?_
                                refine lv_goto (tgt := 235) hx hb d7_refusal_231 (by decide) ?_
                                exact se_pi C0 (by rw [if_neg c_1, if_neg c_38, if_neg c_75, if_neg c_112, if_neg c_113, if_pos c_115, if_neg c_116, if_neg c_117, if_neg c_118, if_neg c_131, if_pos c_132, if_neg c_133, if_pos c_135, if_pos c_138, if_pos c_139] at hO; exact hO) d7_refusal_235
                            · refine lv_bipush (v := (-7)) hx hb d7_refusal_214 (by decide) ?_
                              refine lv_goto (tgt := 235) hx hb d7_refusal_216 (by decide) ?_
                              exact se_pi C0 (by rw [if_neg c_1, if_neg c_38, if_neg c_75, if_neg c_112, if_neg c_113, if_pos c_115, if_neg c_116, if_neg c_117, if_neg c_118, if_neg c_131, if_pos c_132, if_neg c_133, if_pos c_135, if_neg c_138] at hO; exact hO) d7_refusal_235
                        · refine lv_iload_n hx hb d7_refusal_156 rfl (lv_at hl 3 rfl) ?_
                          refine lv_aload_n hx hb d7_refusal_157 rfl (lv_at hl 2 rfl) ?_
                          refine sr_get (v := .ref (ad 43 0)) hx hb hw hown hK hB 22 (hX 20 (by decide)) cf_20 us7 (by decide) fl_7_66 (rfl) d7_refusal_158 ?_
                          refine lv_aload_n hx hb d7_refusal_161 rfl (lv_at hl 2 rfl) ?_
                          refine sr_get (v := .int (S 20 0 29)) hx hb hw hown hK hB 29 (hX 20 (by decide)) cf_20 us7 (by decide) fl_7_124 (rfl) d7_refusal_162 ?_
                          refine sr_iald (v := A 43 0 ((S 20 0 29).toNatClampNeg)) hx hb hK hB (hX 43 (by decide)) rfl rfl (by (refine vp_in_iff.mpr ?_); (show 0 ≤ (S 20 0 29).toInt ∧ (S 20 0 29).toInt < ((60 : Nat) : Int)); (have qs := hso (by assumption));  omega) d7_refusal_165 (rfl) ?_
                          refine lv_icmp_le (tgt := 172) hx hb d7_refusal_166 (by decide) (fun c_140 => ?_) (fun c_140 => ?_)
                          · refine lv_aload_n hx hb d7_refusal_172 rfl (lv_at hl 2 rfl) ?_
                            refine sr_get (v := .int (S 20 0 27)) hx hb hw hown hK hB 27 (hX 20 (by decide)) cf_20 us7 (by decide) fl_7_81 (rfl) d7_refusal_173 ?_
                            refine lv_if_ne (tgt := 188) hx hb d7_refusal_176 (by decide) (fun c => absurd c_133 c) (fun _ => ?_)
                            refine lv_aload_n hx hb d7_refusal_179 rfl (lv_at hl 2 rfl) ?_
                            refine lv_iload hx hb d7_refusal_180 (lv_at hl 1 rfl) ?_
                            refine sr_vp C0 hB (m7_givableOf hX (S 20 0 28) (by (have kc_75 := nle_i c_75); (have kc_113 := in_t c_113); (have l0 : (0 : Int32).toInt = 0 := rfl); (have l1000 : (1000 : Int32).toInt = 1000 := rfl);  first | assumption | omega) (by (have kc_75 := nle_i c_75); (have kc_113 := in_t c_113); (have l0 : (0 : Int32).toInt = 0 := rfl); (have l1000 : (1000 : Int32).toInt = 1000 := rfl);  first | assumption | omega)) (hX 20 (by decide)) cf_20 ml_7_133 im_7_givableOf se_7_givableOf in_7 cd_7_givableOf hd7_givableOf ⟨⟨rfl, rfl⟩, by decide, by decide⟩ ⟨Nat.zero_le _, Nat.zero_le _⟩ hl.1 rfl (Nat.le_of_ble_eq_true rfl) d7_refusal_182 ?_
                            refine lv_goto (tgt := 206) hx hb d7_refusal_185 (by decide) ?_
                            refine lv_istore (lv' := [(6, .int (V7_givableOf S A G (S 20 0 28))), (5, .int 1), (4, .int (S 20 0 28)), (0, .ref (ad 20 0)), (1, .int x1), (2, .int x2), (3, .int x3)]) hx hb d7_refusal_206 hl (by decide) rfl (fun ls hl => ?_)
                            refine lv_iload_n hx hb d7_refusal_208 rfl (lv_at hl 4 rfl) ?_
                            refine lv_iload hx hb d7_refusal_209 (lv_at hl 0 rfl) ?_
                            refine lv_icmp_le (tgt := 219) hx hb d7_refusal_211 (by decide) (fun c_142 => ?_) (fun c_142 => ?_)
                            · refine lv_aload_n hx hb d7_refusal_219 rfl (lv_at hl 3 rfl) ?_
                              refine sr_get (v := .int (S 20 0 34)) hx hb hw hown hK hB 34 (hX 20 (by decide)) cf_20 us7 (by decide) fl_7_130 (rfl) d7_refusal_220 ?_
                              refine lv_sipush (v := 300) hx hb d7_refusal_223 (by decide) ?_
                              refine lv_icmp_ne (tgt := 234) hx hb d7_refusal_226 (by decide) (fun c_143 => ?_) (fun c_143 => ?_)
                              · refine lv_iconst (v := 0) hx hb d7_refusal_234 (by decide) ?_
                                exact se_pi C0 (by rw [if_neg c_1, if_neg c_38, if_neg c_75, if_neg c_112, if_neg c_113, if_pos c_115, if_neg c_116, if_neg c_117, if_neg c_118, if_neg c_131, if_pos c_132, if_pos c_133, if_pos c_140, if_pos c_142, if_neg c_143] at hO; exact hO) d7_refusal_235
                              · refine lv_bipush (v := (-8)) hx hb d7_refusal_229 (by decide) ?_
                                refine lv_goto (tgt := 235) hx hb d7_refusal_231 (by decide) ?_
                                exact se_pi C0 (by rw [if_neg c_1, if_neg c_38, if_neg c_75, if_neg c_112, if_neg c_113, if_pos c_115, if_neg c_116, if_neg c_117, if_neg c_118, if_neg c_131, if_pos c_132, if_pos c_133, if_pos c_140, if_pos c_142, if_pos c_143] at hO; exact hO) d7_refusal_235
                            · refine lv_bipush (v := (-7)) hx hb d7_refusal_214 (by decide) ?_
                              refine lv_goto (tgt := 235) hx hb d7_refusal_216 (by decide) ?_
                              exact se_pi C0 (by rw [if_neg c_1, if_neg c_38, if_neg c_75, if_neg c_112, if_neg c_113, if_pos c_115, if_neg c_116, if_neg c_117, if_neg c_118, if_neg c_131, if_pos c_132, if_pos c_133, if_pos c_140, if_neg c_142] at hO; exact hO) d7_refusal_235
                          · refine lv_bipush (v := (-6)) hx hb d7_refusal_169 (by decide) ?_
                            exact se_pi C0 (by rw [if_neg c_1, if_neg c_38, if_neg c_75, if_neg c_112, if_neg c_113, if_pos c_115, if_neg c_116, if_neg c_117, if_neg c_118, if_neg c_131, if_pos c_132, if_pos c_133, if_neg c_140] at hO; exact hO) d7_refusal_171
                      · refine lv_bipush (v := (-4)) hx hb d7_refusal_146 (by decide) ?_
                        exact se_pi C0 (by rw [if_neg c_1, if_neg c_38, if_neg c_75, if_neg c_112, if_neg c_113, if_pos c_115, if_neg c_116, if_neg c_117, if_neg c_118, if_neg c_131, if_neg c_132] at hO; exact hO) d7_refusal_148
            · refine lv_bipush (v := (-2)) hx hb d7_refusal_107 (by decide) ?_
              exact se_pi C0 (by rw [if_neg c_1, if_neg c_38, if_neg c_75, if_neg c_112, if_neg c_113, if_neg c_115] at hO; exact hO) d7_refusal_109
        · refine lv_iload hx hb d7_refusal_41 (lv_at hl 0 rfl) ?_
          refine lv_if_eq (tgt := 71) hx hb d7_refusal_43 (by decide) (fun c => absurd c (by decide)) (fun _ => ?_)
          refine lv_aload_n hx hb d7_refusal_46 rfl (lv_at hl 2 rfl) ?_
          refine sr_get (v := .ref (ad 35 0)) hx hb hw hown hK hB 14 (hX 20 (by decide)) cf_20 us7 (by decide) fl_7_45 (rfl) d7_refusal_47 ?_
          refine lv_iload hx hb d7_refusal_50 (lv_at hl 1 rfl) ?_
          refine sr_iald (v := A 35 0 ((S 20 0 28).toNatClampNeg)) hx hb hK hB (hX 35 (by decide)) rfl rfl (by (refine vp_in_iff.mpr ?_); (show 0 ≤ (S 20 0 28).toInt ∧ (S 20 0 28).toInt < ((64 : Nat) : Int));  omega) d7_refusal_52 (rfl) ?_
          refine lv_if_lt (tgt := 67) hx hb d7_refusal_53 (by decide) (fun c_145 => ?_) (fun c_145 => ?_)
          · refine lv_iconst (v := 1) hx hb d7_refusal_67 (by decide) ?_
            refine lv_goto (tgt := 72) hx hb d7_refusal_68 (by decide) ?_
            refine lv_istore (lv' := [(5, .int 1), (4, .int (S 20 0 28)), (0, .ref (ad 20 0)), (1, .int x1), (2, .int x2), (3, .int x3)]) hx hb d7_refusal_72 hl (by decide) rfl (fun ls hl => ?_)
            refine lv_iload_n hx hb d7_refusal_74 rfl (lv_at hl 3 rfl) ?_
            refine lv_iconst (v := 0) hx hb d7_refusal_75 (by decide) ?_
            refine lv_sipush (v := 1000) hx hb d7_refusal_76 (by decide) ?_
            refine sr_sp C0 hB (m7_in hX x1 0 1000 ) ml_7_93 st_7_in in_7 cd_7_in hd7_in ⟨⟨rfl, rfl⟩, by decide, by decide⟩ ⟨Nat.zero_le _, Nat.zero_le _⟩ hl.1 rfl (Nat.le_of_ble_eq_true rfl) d7_refusal_79 ?_
            refine lv_if_eq (tgt := 98) hx hb d7_refusal_82 (by decide) (fun c_146 => ?_) (fun c_146 => ?_)
            · refine lv_iconst (v := (-1)) hx hb d7_refusal_98 (by decide) ?_
              exact se_pi C0 (by rw [if_neg c_1, if_neg c_38, if_neg c_75, if_pos c_112, if_pos c_145, if_pos c_146] at hO; exact hO) d7_refusal_99
            · refine lv_aload_n hx hb d7_refusal_85 rfl (lv_at hl 2 rfl) ?_
              refine sr_get (v := .int (S 20 0 27)) hx hb hw hown hK hB 27 (hX 20 (by decide)) cf_20 us7 (by decide) fl_7_81 (rfl) d7_refusal_86 ?_
              refine lv_iconst (v := 1) hx hb d7_refusal_89 (by decide) ?_
              refine lv_icmp_ne (tgt := 100) hx hb d7_refusal_90 (by decide) (fun c => absurd c_112 c) (fun _ => ?_)
              refine lv_iload hx hb d7_refusal_93 (lv_at hl 0 rfl) ?_
              refine lv_if_ne (tgt := 100) hx hb d7_refusal_95 (by decide) (fun _ => ?_) (fun c => absurd c (by decide))
              refine lv_aload_n hx hb d7_refusal_100 rfl (lv_at hl 2 rfl) ?_
              refine sr_get (v := .int (S 20 0 6)) hx hb hw hown hK hB 6 (hX 20 (by decide)) cf_20 us7 (by decide) fl_7_26 (rfl) d7_refusal_101 ?_
              refine lv_if_ge (tgt := 110) hx hb d7_refusal_104 (by decide) (fun c_149 => ?_) (fun c_149 => ?_)
              · refine lv_aload_n hx hb d7_refusal_110 rfl (lv_at hl 2 rfl) ?_
                refine sr_get (v := .int (S 20 0 27)) hx hb hw hown hK hB 27 (hX 20 (by decide)) cf_20 us7 (by decide) fl_7_81 (rfl) d7_refusal_111 ?_
                refine lv_if_lt (tgt := 146) hx hb d7_refusal_114 (by decide) (fun c => absurd c (by rw [c_112]; decide)) (fun _ => ?_)
                refine lv_aload_n hx hb d7_refusal_117 rfl (lv_at hl 2 rfl) ?_
                refine sr_get (v := .int (S 20 0 27)) hx hb hw hown hK hB 27 (hX 20 (by decide)) cf_20 us7 (by decide) fl_7_81 (rfl) d7_refusal_118 ?_
                refine lv_iconst (v := 2) hx hb d7_refusal_121 (by decide) ?_
                refine lv_icmp_eq (tgt := 146) hx hb d7_refusal_122 (by decide) (fun c => absurd c (by rw [c_112]; decide)) (fun _ => ?_)
                refine lv_aload_n hx hb d7_refusal_125 rfl (lv_at hl 2 rfl) ?_
                refine sr_get (v := .int (S 20 0 31)) hx hb hw hown hK hB 31 (hX 20 (by decide)) cf_20 us7 (by decide) fl_7_159 (rfl) d7_refusal_126 ?_
                refine lv_if_eq (tgt := 139) hx hb d7_refusal_129 (by decide) (fun c_152 => ?_) (fun c_152 => ?_)
                · refine lv_aload_n hx hb d7_refusal_139 rfl (lv_at hl 2 rfl) ?_
                  refine sr_get (v := .int (S 20 0 33)) hx hb hw hown hK hB 33 (hX 20 (by decide)) cf_20 us7 (by decide) fl_7_166 (rfl) d7_refusal_140 ?_
                  refine lv_if_eq (tgt := 149) hx hb d7_refusal_143 (by decide) (fun c_153 => ?_) (fun c_153 => ?_)
                  · refine lv_aload_n hx hb d7_refusal_149 rfl (lv_at hl 2 rfl) ?_
                    refine sr_get (v := .int (S 20 0 27)) hx hb hw hown hK hB 27 (hX 20 (by decide)) cf_20 us7 (by decide) fl_7_81 (rfl) d7_refusal_150 ?_
                    refine lv_if_ne (tgt := 172) hx hb d7_refusal_153 (by decide) (fun _ => ?_) (fun c => absurd c (by rw [c_112]; decide))
                    refine lv_aload_n hx hb d7_refusal_172 rfl (lv_at hl 2 rfl) ?_
                    refine sr_get (v := .int (S 20 0 27)) hx hb hw hown hK hB 27 (hX 20 (by decide)) cf_20 us7 (by decide) fl_7_81 (rfl) d7_refusal_173 ?_
                    refine lv_if_ne (tgt := 188) hx hb d7_refusal_176 (by decide) (fun _ => ?_) (fun c => absurd c (by rw [c_112]; decide))
                    refine lv_aload_n hx hb d7_refusal_188 rfl (lv_at hl 2 rfl) ?_
                    refine sr_get (v := .int (S 20 0 27)) hx hb hw hown hK hB 27 (hX 20 (by decide)) cf_20 us7 (by decide) fl_7_81 (rfl) d7_refusal_189 ?_
                    refine lv_iconst (v := 3) hx hb d7_refusal_192 (by decide) ?_
                    refine lv_icmp_ne (tgt := 205) hx hb d7_refusal_193 (by decide) (fun _ => ?_) (fun c => absurd c (by rw [c_112]; decide))
                    refine lv_iload_n hx hb d7_refusal_205 rfl (lv_at hl 3 rfl) ?_
                    refine lv_istore (lv' := [(6, .int x1), (5, .int 1), (4, .int (S 20 0 28)), (0, .ref (ad 20 0)), (1, .int x1), (2, .int x2), (3, .int x3)]) hx hb d7_refusal_206 hl (by decide) rfl (fun ls hl => ?_)
                    refine lv_iload_n hx hb d7_refusal_208 rfl (lv_at hl 4 rfl) ?_
                    refine lv_iload hx hb d7_refusal_209 (lv_at hl 0 rfl) ?_
                    refine lv_icmp_le (tgt := 219) hx hb d7_refusal_211 (by decide) (fun c_157 => ?_) (fun c_157 => ?_)
                    · refine lv_aload_n hx hb d7_refusal_219 rfl (lv_at hl 3 rfl) ?_
                      refine sr_get (v := .int (S 20 0 34)) hx hb hw hown hK hB 34 (hX 20 (by decide)) cf_20 us7 (by decide) fl_7_130 (rfl) d7_refusal_220 ?_
                      refine lv_sipush (v := 300) hx hb d7_refusal_223 (by decide) ?_
                      refine lv_icmp_ne (tgt := 234) hx hb d7_refusal_226 (by decide) (fun c_158 => ?_) (fun c_158 => ?_)
                      · refine lv_iconst (v := 0) hx hb d7_refusal_234 (by decide) ?_
                        exact se_pi C0 (by rw [if_neg c_1, if_neg c_38, if_neg c_75, if_pos c_112, if_pos c_145, if_neg c_146, if_pos c_149, if_pos c_152, if_pos c_153, if_pos c_157, if_neg c_158] at hO; exact hO) d7_refusal_235
                      · refine lv_bipush (v := (-8)) hx hb d7_refusal_229 (by decide) ?_
                        refine lv_goto (tgt := 235) hx hb d7_refusal_231 (by decide) ?_
                        exact se_pi C0 (by rw [if_neg c_1, if_neg c_38, if_neg c_75, if_pos c_112, if_pos c_145, if_neg c_146, if_pos c_149, if_pos c_152, if_pos c_153, if_pos c_157, if_pos c_158] at hO; exact hO) d7_refusal_235
                    · refine lv_bipush (v := (-7)) hx hb d7_refusal_214 (by decide) ?_
                      refine lv_goto (tgt := 235) hx hb d7_refusal_216 (by decide) ?_
                      exact se_pi C0 (by rw [if_neg c_1, if_neg c_38, if_neg c_75, if_pos c_112, if_pos c_145, if_neg c_146, if_pos c_149, if_pos c_152, if_pos c_153, if_neg c_157] at hO; exact hO) d7_refusal_235
                  · refine lv_bipush (v := (-4)) hx hb d7_refusal_146 (by decide) ?_
                    exact se_pi C0 (by rw [if_neg c_1, if_neg c_38, if_neg c_75, if_pos c_112, if_pos c_145, if_neg c_146, if_pos c_149, if_pos c_152, if_neg c_153] at hO; exact hO) d7_refusal_148
                · refine lv_aload_n hx hb d7_refusal_132 rfl (lv_at hl 2 rfl) ?_
                  refine sr_get (v := .int (S 20 0 32)) hx hb hw hown hK hB 32 (hX 20 (by decide)) cf_20 us7 (by decide) fl_7_163 (rfl) d7_refusal_133 ?_
                  refine lv_if_eq (tgt := 146) hx hb d7_refusal_136 (by decide) (fun c_159 => ?_) (fun c_159 => ?_)
                  · refine lv_bipush (v := (-4)) hx hb d7_refusal_146 (by decide) ?_
                    exact se_pi C0 (by rw [if_neg c_1, if_neg c_38, if_neg c_75, if_pos c_112, if_pos c_145, if_neg c_146, if_pos c_149, if_neg c_152, if_pos c_159] at hO; exact hO) d7_refusal_148
                  · refine lv_aload_n hx hb d7_refusal_139 rfl (lv_at hl 2 rfl) ?_
                    refine sr_get (v := .int (S 20 0 33)) hx hb hw hown hK hB 33 (hX 20 (by decide)) cf_20 us7 (by decide) fl_7_166 (rfl) d7_refusal_140 ?_
                    refine lv_if_eq (tgt := 149) hx hb d7_refusal_143 (by decide) (fun c_160 => ?_) (fun c_160 => ?_)
                    · refine lv_aload_n hx hb d7_refusal_149 rfl (lv_at hl 2 rfl) ?_
                      refine sr_get (v := .int (S 20 0 27)) hx hb hw hown hK hB 27 (hX 20 (by decide)) cf_20 us7 (by decide) fl_7_81 (rfl) d7_refusal_150 ?_
                      refine lv_if_ne (tgt := 172) hx hb d7_refusal_153 (by decide) (fun _ => ?_) (fun c => absurd c (by rw [c_112]; decide))
                      refine lv_aload_n hx hb d7_refusal_172 rfl (lv_at hl 2 rfl) ?_
                      refine sr_get (v := .int (S 20 0 27)) hx hb hw hown hK hB 27 (hX 20 (by decide)) cf_20 us7 (by decide) fl_7_81 (rfl) d7_refusal_173 ?_
                      refine lv_if_ne (tgt := 188) hx hb d7_refusal_176 (by decide) (fun _ => ?_) (fun c => absurd c (by rw [c_112]; decide))
                      refine lv_aload_n hx hb d7_refusal_188 rfl (lv_at hl 2 rfl) ?_
                      refine sr_get (v := .int (S 20 0 27)) hx hb hw hown hK hB 27 (hX 20 (by decide)) cf_20 us7 (by decide) fl_7_81 (rfl) d7_refusal_189 ?_
                      refine lv_iconst (v := 3) hx hb d7_refusal_192 (by decide) ?_
                      refine lv_icmp_ne (tgt := 205) hx hb d7_refusal_193 (by decide) (fun _ => ?_) (fun c => absurd c (by rw [c_112]; decide))
                      refine lv_iload_n hx hb d7_refusal_205 rfl (lv_at hl 3 rfl) ?_
                      refine lv_istore (lv' := [(6, .int x1), (5, .int 1), (4, .int (S 20 0 28)), (0, .ref (ad 20 0)), (1, .int x1), (2, .int x2), (3, .int x3)]) hx hb d7_refusal_206 hl (by decide) rfl (fun ls hl => ?_)
                      refine lv_iload_n hx hb d7_refusal_208 rfl (lv_at hl 4 rfl) ?_
                      refine lv_iload hx hb d7_refusal_209 (lv_at hl 0 rfl) ?_
                      refine lv_icmp_le (tgt := 219) hx hb d7_refusal_211 (by decide) (fun c_164 => ?_) (fun c_164 => ?_)
                      · refine lv_aload_n hx hb d7_refusal_219 rfl (lv_at hl 3 rfl) ?_
                        refine sr_get (v := .int (S 20 0 34)) hx hb hw hown hK hB 34 (hX 20 (by decide)) cf_20 us7 (by decide) fl_7_130 (rfl) d7_refusal_220 ?_
                        refine lv_sipush (v := 300) hx hb d7_refusal_223 (by decide) ?_
                        refine lv_icmp_ne (tgt := 234) hx hb d7_refusal_226 (by decide) (fun c_165 => ?_) (fun c_165 => ?_)
                        · refine lv_iconst (v := 0) hx hb d7_refusal_234 (by decide) ?_
                          exact se_pi C0 (by rw [if_neg c_1, if_neg c_38, if_neg c_75, if_pos c_112, if_pos c_145, if_neg c_146, if_pos c_149, if_neg c_152, if_neg c_159, if_pos c_160, if_pos c_164, if_neg c_165] at hO; exact hO) d7_refusal_235
                        · refine lv_bipush (v := (-8)) hx hb d7_refusal_229 (by decide) ?_
                          refine lv_goto (tgt := 235) hx hb d7_refusal_231 (by decide) ?_
                          exact se_pi C0 (by rw [if_neg c_1, if_neg c_38, if_neg c_75, if_pos c_112, if_pos c_145, if_neg c_146, if_pos c_149, if_neg c_152, if_neg c_159, if_pos c_160, if_pos c_164, if_pos c_165] at hO; exact hO) d7_refusal_235
                      · refine lv_bipush (v := (-7)) hx hb d7_refusal_214 (by decide) ?_
                        refine lv_goto (tgt := 235) hx hb d7_refusal_216 (by decide) ?_
                        exact se_pi C0 (by rw [if_neg c_1, if_neg c_38, if_neg c_75, if_pos c_112, if_pos c_145, if_neg c_146, if_pos c_149, if_neg c_152, if_neg c_159, if_pos c_160, if_neg c_164] at hO; exact hO) d7_refusal_235
                    · refine lv_bipush (v := (-4)) hx hb d7_refusal_146 (by decide) ?_
                      exact se_pi C0 (by rw [if_neg c_1, if_neg c_38, if_neg c_75, if_pos c_112, if_pos c_145, if_neg c_146, if_pos c_149, if_neg c_152, if_neg c_159, if_neg c_160] at hO; exact hO) d7_refusal_148
              · refine lv_bipush (v := (-2)) hx hb d7_refusal_107 (by decide) ?_
                exact se_pi C0 (by rw [if_neg c_1, if_neg c_38, if_neg c_75, if_pos c_112, if_pos c_145, if_neg c_146, if_neg c_149] at hO; exact hO) d7_refusal_109
          · refine lv_aload_n hx hb d7_refusal_56 rfl (lv_at hl 2 rfl) ?_
            refine sr_get (v := .ref (ad 35 0)) hx hb hw hown hK hB 14 (hX 20 (by decide)) cf_20 us7 (by decide) fl_7_45 (rfl) d7_refusal_57 ?_
            refine lv_iload hx hb d7_refusal_60 (lv_at hl 1 rfl) ?_
            refine sr_iald (v := A 35 0 ((S 20 0 28).toNatClampNeg)) hx hb hK hB (hX 35 (by decide)) rfl rfl (by (refine vp_in_iff.mpr ?_); (show 0 ≤ (S 20 0 28).toInt ∧ (S 20 0 28).toInt < ((64 : Nat) : Int));  omega) d7_refusal_62 (rfl) ?_
            refine lv_iload_n hx hb d7_refusal_63 rfl (lv_at hl 4 rfl) ?_
            refine lv_icmp_ne (tgt := 71) hx hb d7_refusal_64 (by decide) (fun c_166 => ?_) (fun c_166 => ?_)
            · refine lv_iconst (v := 0) hx hb d7_refusal_71 (by decide) ?_
              refine lv_istore (lv' := [(5, .int 0), (4, .int (S 20 0 28)), (0, .ref (ad 20 0)), (1, .int x1), (2, .int x2), (3, .int x3)]) hx hb d7_refusal_72 hl (by decide) rfl (fun ls hl => ?_)
              refine lv_iload_n hx hb d7_refusal_74 rfl (lv_at hl 3 rfl) ?_
              refine lv_iconst (v := 0) hx hb d7_refusal_75 (by decide) ?_
              refine lv_sipush (v := 1000) hx hb d7_refusal_76 (by decide) ?_
              refine sr_sp C0 hB (m7_in hX x1 0 1000 ) ml_7_93 st_7_in in_7 cd_7_in hd7_in ⟨⟨rfl, rfl⟩, by decide, by decide⟩ ⟨Nat.zero_le _, Nat.zero_le _⟩ hl.1 rfl (Nat.le_of_ble_eq_true rfl) d7_refusal_79 ?_
              refine lv_if_eq (tgt := 98) hx hb d7_refusal_82 (by decide) (fun c_167 => ?_) (fun c_167 => ?_)
              · refine lv_iconst (v := (-1)) hx hb d7_refusal_98 (by decide) ?_
                exact se_pi C0 (by rw [if_neg c_1, if_neg c_38, if_neg c_75, if_pos c_112, if_neg c_145, if_neg c_166, if_pos c_167] at hO; exact hO) d7_refusal_99
              · refine lv_aload_n hx hb d7_refusal_85 rfl (lv_at hl 2 rfl) ?_
                refine sr_get (v := .int (S 20 0 27)) hx hb hw hown hK hB 27 (hX 20 (by decide)) cf_20 us7 (by decide) fl_7_81 (rfl) d7_refusal_86 ?_
                refine lv_iconst (v := 1) hx hb d7_refusal_89 (by decide) ?_
                refine lv_icmp_ne (tgt := 100) hx hb d7_refusal_90 (by decide) (fun c => absurd c_112 c) (fun _ => ?_)
                refine lv_iload hx hb d7_refusal_93 (lv_at hl 0 rfl) ?_
                refine lv_if_ne (tgt := 100) hx hb d7_refusal_95 (by decide) (fun c => absurd (by decide) c) (fun _ => ?_)
                refine lv_iconst (v := (-1)) hx hb d7_refusal_98 (by decide) ?_
                exact se_pi C0 (by rw [if_neg c_1, if_neg c_38, if_neg c_75, if_pos c_112, if_neg c_145, if_neg c_166, if_neg c_167] at hO; exact hO) d7_refusal_99
            · refine lv_iconst (v := 1) hx hb d7_refusal_67 (by decide) ?_
              refine lv_goto (tgt := 72) hx hb d7_refusal_68 (by decide) ?_
              refine lv_istore (lv' := [(5, .int 1), (4, .int (S 20 0 28)), (0, .ref (ad 20 0)), (1, .int x1), (2, .int x2), (3, .int x3)]) hx hb d7_refusal_72 hl (by decide) rfl (fun ls hl => ?_)
              refine lv_iload_n hx hb d7_refusal_74 rfl (lv_at hl 3 rfl) ?_
              refine lv_iconst (v := 0) hx hb d7_refusal_75 (by decide) ?_
              refine lv_sipush (v := 1000) hx hb d7_refusal_76 (by decide) ?_
              refine sr_sp C0 hB (m7_in hX x1 0 1000 ) ml_7_93 st_7_in in_7 cd_7_in hd7_in ⟨⟨rfl, rfl⟩, by decide, by decide⟩ ⟨Nat.zero_le _, Nat.zero_le _⟩ hl.1 rfl (Nat.le_of_ble_eq_true rfl) d7_refusal_79 ?_
              refine lv_if_eq (tgt := 98) hx hb d7_refusal_82 (by decide) (fun c_170 => ?_) (fun c_170 => ?_)
              · refine lv_iconst (v := (-1)) hx hb d7_refusal_98 (by decide) ?_
                exact se_pi C0 (by rw [if_neg c_1, if_neg c_38, if_neg c_75, if_pos c_112, if_neg c_145, if_pos c_166, if_pos c_170] at hO; exact hO) d7_refusal_99
              · refine lv_aload_n hx hb d7_refusal_85 rfl (lv_at hl 2 rfl) ?_
                refine sr_get (v := .int (S 20 0 27)) hx hb hw hown hK hB 27 (hX 20 (by decide)) cf_20 us7 (by decide) fl_7_81 (rfl) d7_refusal_86 ?_
                refine lv_iconst (v := 1) hx hb d7_refusal_89 (by decide) ?_
                refine lv_icmp_ne (tgt := 100) hx hb d7_refusal_90 (by decide) (fun c => absurd c_112 c) (fun _ => ?_)
                refine lv_iload hx hb d7_refusal_93 (lv_at hl 0 rfl) ?_
                refine lv_if_ne (tgt := 100) hx hb d7_refusal_95 (by decide) (fun _ => ?_) (fun c => absurd c (by decide))
                refine lv_aload_n hx hb d7_refusal_100 rfl (lv_at hl 2 rfl) ?_
                refine sr_get (v := .int (S 20 0 6)) hx hb hw hown hK hB 6 (hX 20 (by decide)) cf_20 us7 (by decide) fl_7_26 (rfl) d7_refusal_101 ?_
                refine lv_if_ge (tgt := 110) hx hb d7_refusal_104 (by decide) (fun c_173 => ?_) (fun c_173 => ?_)
                · refine lv_aload_n hx hb d7_refusal_110 rfl (lv_at hl 2 rfl) ?_
                  refine sr_get (v := .int (S 20 0 27)) hx hb hw hown hK hB 27 (hX 20 (by decide)) cf_20 us7 (by decide) fl_7_81 (rfl) d7_refusal_111 ?_
                  refine lv_if_lt (tgt := 146) hx hb d7_refusal_114 (by decide) (fun c => absurd c (by rw [c_112]; decide)) (fun _ => ?_)
                  refine lv_aload_n hx hb d7_refusal_117 rfl (lv_at hl 2 rfl) ?_
                  refine sr_get (v := .int (S 20 0 27)) hx hb hw hown hK hB 27 (hX 20 (by decide)) cf_20 us7 (by decide) fl_7_81 (rfl) d7_refusal_118 ?_
                  refine lv_iconst (v := 2) hx hb d7_refusal_121 (by decide) ?_
                  refine lv_icmp_eq (tgt := 146) hx hb d7_refusal_122 (by decide) (fun c => absurd c (by rw [c_112]; decide)) (fun _ => ?_)
                  refine lv_aload_n hx hb d7_refusal_125 rfl (lv_at hl 2 rfl) ?_
                  refine sr_get (v := .int (S 20 0 31)) hx hb hw hown hK hB 31 (hX 20 (by decide)) cf_20 us7 (by decide) fl_7_159 (rfl) d7_refusal_126 ?_
                  refine lv_if_eq (tgt := 139) hx hb d7_refusal_129 (by decide) (fun c_176 => ?_) (fun c_176 => ?_)
                  · refine lv_aload_n hx hb d7_refusal_139 rfl (lv_at hl 2 rfl) ?_
                    refine sr_get (v := .int (S 20 0 33)) hx hb hw hown hK hB 33 (hX 20 (by decide)) cf_20 us7 (by decide) fl_7_166 (rfl) d7_refusal_140 ?_
                    refine lv_if_eq (tgt := 149) hx hb d7_refusal_143 (by decide) (fun c_177 => ?_) (fun c_177 => ?_)
                    · refine lv_aload_n hx hb d7_refusal_149 rfl (lv_at hl 2 rfl) ?_
                      refine sr_get (v := .int (S 20 0 27)) hx hb hw hown hK hB 27 (hX 20 (by decide)) cf_20 us7 (by decide) fl_7_81 (rfl) d7_refusal_150 ?_
                      refine lv_if_ne (tgt := 172) hx hb d7_refusal_153 (by decide) (fun _ => ?_) (fun c => absurd c (by rw [c_112]; decide))
                      refine lv_aload_n hx hb d7_refusal_172 rfl (lv_at hl 2 rfl) ?_
                      refine sr_get (v := .int (S 20 0 27)) hx hb hw hown hK hB 27 (hX 20 (by decide)) cf_20 us7 (by decide) fl_7_81 (rfl) d7_refusal_173 ?_
                      refine lv_if_ne (tgt := 188) hx hb d7_refusal_176 (by decide) (fun _ => ?_) (fun c => absurd c (by rw [c_112]; decide))
                      refine lv_aload_n hx hb d7_refusal_188 rfl (lv_at hl 2 rfl) ?_
                      refine sr_get (v := .int (S 20 0 27)) hx hb hw hown hK hB 27 (hX 20 (by decide)) cf_20 us7 (by decide) fl_7_81 (rfl) d7_refusal_189 ?_
                      refine lv_iconst (v := 3) hx hb d7_refusal_192 (by decide) ?_
                      refine lv_icmp_ne (tgt := 205) hx hb d7_refusal_193 (by decide) (fun _ => ?_) (fun c => absurd c (by rw [c_112]; decide))
                      refine lv_iload_n hx hb d7_refusal_205 rfl (lv_at hl 3 rfl) ?_
                      refine lv_istore (lv' := [(6, .int x1), (5, .int 1), (4, .int (S 20 0 28)), (0, .ref (ad 20 0)), (1, .int x1), (2, .int x2), (3, .int x3)]) hx hb d7_refusal_206 hl (by decide) rfl (fun ls hl => ?_)
                      refine lv_iload_n hx hb d7_refusal_208 rfl (lv_at hl 4 rfl) ?_
                      refine lv_iload hx hb d7_refusal_209 (lv_at hl 0 rfl) ?_
                      refine lv_icmp_le (tgt := 219) hx hb d7_refusal_211 (by decide) (fun c_181 => ?_) (fun c_181 => ?_)
                      · refine lv_aload_n hx hb d7_refusal_219 rfl (lv_at hl 3 rfl) ?_
                        refine sr_get (v := .int (S 20 0 34)) hx hb hw hown hK hB 34 (hX 20 (by decide)) cf_20 us7 (by decide) fl_7_130 (rfl) d7_refusal_220 ?_
                        refine lv_sipush (v := 300) hx hb d7_refusal_223 (by decide) ?_
                        refine lv_icmp_ne (tgt := 234) hx hb d7_refusal_226 (by decide) (fun c_182 => ?_) (fun c_182 => ?_)
                        · refine lv_iconst (v := 0) hx hb d7_refusal_234 (by decide) ?_
                          exact se_pi C0 (by rw [if_neg c_1, if_neg c_38, if_neg c_75, if_pos c_112, if_neg c_145, if_pos c_166, if_neg c_170, if_pos c_173, if_pos c_176, if_pos c_177, if_pos c_181, if_neg c_182] at hO; exact hO) d7_refusal_235
                        · refine lv_bipush (v := (-8)) hx hb d7_refusal_229 (by decide) ?_
                          refine lv_goto (tgt := 235) hx hb d7_refusal_231 (by decide) ?_
                          exact se_pi C0 (by rw [if_neg c_1, if_neg c_38, if_neg c_75, if_pos c_112, if_neg c_145, if_pos c_166, if_neg c_170, if_pos c_173, if_pos c_176, if_pos c_177, if_pos c_181, if_pos c_182] at hO; exact hO) d7_refusal_235
                      · refine lv_bipush (v := (-7)) hx hb d7_refusal_214 (by decide) ?_
                        refine lv_goto (tgt := 235) hx hb d7_refusal_216 (by decide) ?_
                        exact se_pi C0 (by rw [if_neg c_1, if_neg c_38, if_neg c_75, if_pos c_112, if_neg c_145, if_pos c_166, if_neg c_170, if_pos c_173, if_pos c_176, if_pos c_177, if_neg c_181] at hO; exact hO) d7_refusal_235
                    · refine lv_bipush (v := (-4)) hx hb d7_refusal_146 (by decide) ?_
                      exact se_pi C0 (by rw [if_neg c_1, if_neg c_38, if_neg c_75, if_pos c_112, if_neg c_145, if_pos c_166, if_neg c_170, if_pos c_173, if_pos c_176, if_neg c_177] at hO; exact hO) d7_refusal_148
                  · refine lv_aload_n hx hb d7_refusal_132 rfl (lv_at hl 2 rfl) ?_
                    refine sr_get (v := .int (S 20 0 32)) hx hb hw hown hK hB 32 (hX 20 (by decide)) cf_20 us7 (by decide) fl_7_163 (rfl) d7_refusal_133 ?_
                    refine lv_if_eq (tgt := 146) hx hb d7_refusal_136 (by decide) (fun c_183 => ?_) (fun c_183 => ?_)
                    · refine lv_bipush (v := (-4)) hx hb d7_refusal_146 (by decide) ?_
                      exact se_pi C0 (by rw [if_neg c_1, if_neg c_38, if_neg c_75, if_pos c_112, if_neg c_145, if_pos c_166, if_neg c_170, if_pos c_173, if_neg c_176, if_pos c_183] at hO; exact hO) d7_refusal_148
                    · refine lv_aload_n hx hb d7_refusal_139 rfl (lv_at hl 2 rfl) ?_
                      refine sr_get (v := .int (S 20 0 33)) hx hb hw hown hK hB 33 (hX 20 (by decide)) cf_20 us7 (by decide) fl_7_166 (rfl) d7_refusal_140 ?_
                      refine lv_if_eq (tgt := 149) hx hb d7_refusal_143 (by decide) (fun c_184 => ?_) (fun c_184 => ?_)
                      · refine lv_aload_n hx hb d7_refusal_149 rfl (lv_at hl 2 rfl) ?_
                        refine sr_get (v := .int (S 20 0 27)) hx hb hw hown hK hB 27 (hX 20 (by decide)) cf_20 us7 (by decide) fl_7_81 (rfl) d7_refusal_150 ?_
                        refine lv_if_ne (tgt := 172) hx hb d7_refusal_153 (by decide) (fun _ => ?_) (fun c => absurd c (by rw [c_112]; decide))
                        refine lv_aload_n hx hb d7_refusal_172 rfl (lv_at hl 2 rfl) ?_
                        refine sr_get (v := .int (S 20 0 27)) hx hb hw hown hK hB 27 (hX 20 (by decide)) cf_20 us7 (by decide) fl_7_81 (rfl) d7_refusal_173 ?_
                        refine lv_if_ne (tgt := 188) hx hb d7_refusal_176 (by decide) (fun _ => ?_) (fun c => absurd c (by rw [c_112]; decide))
                        refine lv_aload_n hx hb d7_refusal_188 rfl (lv_at hl 2 rfl) ?_
                        refine sr_get (v := .int (S 20 0 27)) hx hb hw hown hK hB 27 (hX 20 (by decide)) cf_20 us7 (by decide) fl_7_81 (rfl) d7_refusal_189 ?_
                        refine lv_iconst (v := 3) hx hb d7_refusal_192 (by decide) ?_
                        refine lv_icmp_ne (tgt := 205) hx hb d7_refusal_193 (by decide) (fun _ => ?_) (fun c => absurd c (by rw [c_112]; decide))
                        refine lv_iload_n hx hb d7_refusal_205 rfl (lv_at hl 3 rfl) ?_
                        refine lv_istore (lv' := [(6, .int x1), (5, .int 1), (4, .int (S 20 0 28)), (0, .ref (ad 20 0)), (1, .int x1), (2, .int x2), (3, .int x3)]) hx hb d7_refusal_206 hl (by decide) rfl (fun ls hl => ?_)
                        refine lv_iload_n hx hb d7_refusal_208 rfl (lv_at hl 4 rfl) ?_
                        refine lv_iload hx hb d7_refusal_209 (lv_at hl 0 rfl) ?_
                        refine lv_icmp_le (tgt := 219) hx hb d7_refusal_211 (by decide) (fun c_188 => ?_) (fun c_188 => ?_)
                        · refine lv_aload_n hx hb d7_refusal_219 rfl (lv_at hl 3 rfl) ?_
                          refine sr_get (v := .int (S 20 0 34)) hx hb hw hown hK hB 34 (hX 20 (by decide)) cf_20 us7 (by decide) fl_7_130 (rfl) d7_refusal_220 ?_
                          refine lv_sipush (v := 300) hx hb d7_refusal_223 (by decide) ?_
                          refine lv_icmp_ne (tgt := 234) hx hb d7_refusal_226 (by decide) (fun c_189 => ?_) (fun c_189 => ?_)
                          · refine lv_iconst (v := 0) hx hb d7_refusal_234 (by decide) ?_
                            exact se_pi C0 (by rw [if_neg c_1, if_neg c_38, if_neg c_75, if_pos c_112, if_neg c_145, if_pos c_166, if_neg c_170, if_pos c_173, if_neg c_176, if_neg c_183, if_pos c_184, if_pos c_188, if_neg c_189] at hO; exact hO) d7_refusal_235
                          · refine lv_bipush (v := (-8)) hx hb d7_refusal_229 (by decide) ?_
                            refine lv_goto (tgt := 235) hx hb d7_refusal_231 (by decide) ?_
                            exact se_pi C0 (by rw [if_neg c_1, if_neg c_38, if_neg c_75, if_pos c_112, if_neg c_145, if_pos c_166, if_neg c_170, if_pos c_173, if_neg c_176, if_neg c_183, if_pos c_184, if_pos c_188, if_pos c_189] at hO; exact hO) d7_refusal_235
                        · refine lv_bipush (v := (-7)) hx hb d7_refusal_214 (by decide) ?_
                          refine lv_goto (tgt := 235) hx hb d7_refusal_216 (by decide) ?_
                          exact se_pi C0 (by rw [if_neg c_1, if_neg c_38, if_neg c_75, if_pos c_112, if_neg c_145, if_pos c_166, if_neg c_170, if_pos c_173, if_neg c_176, if_neg c_183, if_pos c_184, if_neg c_188] at hO; exact hO) d7_refusal_235
                      · refine lv_bipush (v := (-4)) hx hb d7_refusal_146 (by decide) ?_
                        exact se_pi C0 (by rw [if_neg c_1, if_neg c_38, if_neg c_75, if_pos c_112, if_neg c_145, if_pos c_166, if_neg c_170, if_pos c_173, if_neg c_176, if_neg c_183, if_neg c_184] at hO; exact hO) d7_refusal_148
                · refine lv_bipush (v := (-2)) hx hb d7_refusal_107 (by decide) ?_
                  exact se_pi C0 (by rw [if_neg c_1, if_neg c_38, if_neg c_75, if_pos c_112, if_neg c_145, if_pos c_166, if_neg c_170, if_neg c_173] at hO; exact hO) d7_refusal_109
theorem hd7_refusal : y7_refusal.cls = R7 ∧ y7_refusal.cls ≠ "java/lang/invoke/MethodHandle" ∧ y7_refusal.cls ≠ "java/lang/invoke/VarHandle" ∧ (parseMethodDescriptor y7_refusal.desc).map (fun d => d.parameters.length) = some 3 := ⟨rfl, by decide, by decide, by decide +kernel⟩
theorem m7_refusal {l : Launch} {D : va_G} {aC : Nat → ClassId} {ad : Nat → Nat → Nat} {X : Nat → Nat → Prop} {S A : sS} {G : sG} (hX : xR X) (x1 : Int32) (x2 : Int32) (x3 : Int32) (hlo : ∀ i, i < 64 → 0 ≤ (A 36 0 i).toInt ∧ (A 36 0 i).toInt ≤ 6) (hsb : 0 ≤ (S 20 0 28).toInt ∧ (S 20 0 28).toInt < 64) (hso : S 20 0 27 = 0 → 0 ≤ (S 20 0 29).toInt ∧ (S 20 0 29).toInt < 60) : Met l y7_refusal (.code y7_refusal b7_refusal 7 (some .int) :: wall) (rmk 2) (s_Pc [.ref (ad 20 0), .int x1, .int x2, .int x3] D aC ad X S A G) (s_Qp (V7_refusal S A G x1 x2 x3)) 0 0 (fun _ => False) :=
  s_met (by decide) rfl (Nat.le_of_ble_eq_true rfl) (fun p e s m args below meth c C0 hB ls hl => k7_refusal_0 C0 hB hX x1 x2 x3 hlo hsb hso hl rfl)
