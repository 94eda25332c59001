def O7_amount_124 (S A : sS) (G : sG) (x1 : Int32) (x2 : Int32) (x3 : Int32) (z4 : Int32) (z5 : Int32) : Int32 × sS × sS := if S 20 0 27 = 0 then if x1 ≤ 0 then (V7_bookOf S A G z5, S, A) else (V7_bookOf S (up3 (up3 A 43 0 ((S 20 0 29).toNatClampNeg) ((A 43 0 ((S 20 0 29).toNatClampNeg)) - x1)) 47 0 ((S 20 0 29).toNatClampNeg) (S 20 0 0)) G z5, S, (up3 (up3 A 43 0 ((S 20 0 29).toNatClampNeg) ((A 43 0 ((S 20 0 29).toNatClampNeg)) - x1)) 47 0 ((S 20 0 29).toNatClampNeg) (S 20 0 0))) else (V7_bookOf S A G z5, S, A)
def O7_amount_101 (S A : sS) (G : sG) (x1 : Int32) (x2 : Int32) (x3 : Int32) (z4 : Int32) (z5 : Int32) : Int32 × sS × sS := if S 20 0 27 = 0 then O7_amount_124 (O7_note S A G 2 z5 x1 (S 20 0 29)).1 (O7_note S A G 2 z5 x1 (S 20 0 29)).2 G x1 x2 x3 z4 z5 else O7_amount_124 (O7_note S A G 4 z5 x1 (S 20 0 29)).1 (O7_note S A G 4 z5 x1 (S 20 0 29)).2 G x1 x2 x3 z4 z5
def O7_amount_78 (S A : sS) (G : sG) (x1 : Int32) (x2 : Int32) (x3 : Int32) (z4 : Int32) (z5 : Int32) : Int32 × sS × sS := O7_amount_124 S A G x1 x2 x3 z4 z5
def O7_amount_69 (S A : sS) (G : sG) (x1 : Int32) (x2 : Int32) (x3 : Int32) (z4 : Int32) (z5 : Int32) : Int32 × sS × sS := O7_amount_78 (O7_note S A G 1 z5 x1 (-1)).1 (O7_note S A G 1 z5 x1 (-1)).2 G x1 x2 x3 z4 z5
def O7_amount (S A : sS) (G : sG) (x1 : Int32) (x2 : Int32) (x3 : Int32) : Int32 × sS × sS := if V7_refusal S A G x1 x2 x3 = (-7) then (V7_refusal S A G x1 x2 x3, (up3 (up3 S 20 0 31 1) 20 0 32 0), A) else if 0 ≤ V7_refusal S A G x1 x2 x3 then if S 20 0 27 = 1 then O7_amount_69 (O7_putLot (up3 S 20 0 33 1) (up3 A 35 0 ((S 20 0 28).toNatClampNeg) x2) G (S 20 0 28) x3 x1).1 (O7_putLot (up3 S 20 0 33 1) (up3 A 35 0 ((S 20 0 28).toNatClampNeg) x2) G (S 20 0 28) x3 x1).2 G x1 x2 x3 (V7_refusal S A G x1 x2 x3) (S 20 0 28) else if S 20 0 27 = 3 then O7_amount_101 (O7_takeUnits (up3 S 20 0 33 1) A G (S 20 0 28) x1 1).1 (O7_takeUnits (up3 S 20 0 33 1) A G (S 20 0 28) x1 1).2 G x1 x2 x3 (V7_refusal S A G x1 x2 x3) (S 20 0 28) else O7_amount_101 (O7_takeUnits (up3 S 20 0 33 1) A G (S 20 0 28) x1 0).1 (O7_takeUnits (up3 S 20 0 33 1) A G (S 20 0 28) x1 0).2 G x1 x2 x3 (V7_refusal S A G x1 x2 x3) (S 20 0 28) else (V7_refusal S A G x1 x2 x3, S, A)
set_option maxRecDepth 100000 in
set_option maxHeartbeats 4000000 in
theorem k7_amount_124 {p : Program} {l : Launch} {e : Env} {s : State} {m : MethodId} {args : Array Value} {below : List Frame} {meth : Method} {c : Code} {D : va_G} {aC : Nat → ClassId} {ad : Nat → Nat → Nat} {X : Nat → Nat → Prop} {S A : sS} {G : sG} {H : Heap} {locs : List Loc} (C0 : s_C p s m args meth c b7_amount 6 R7 (some .int) D aC) (hB : s_B D aC ad X (s_N ad X) S A G s.heap H locs) (hX : xR X) (x1 : Int32) (x2 : Int32) (x3 : Int32) (z4 : Int32) (z5 : Int32) (hz5 : 0 ≤ z5.toInt ∧ z5.toInt < 64) (hlo : ∀ i, i < 64 → 0 ≤ (A 36 0 i).toInt ∧ (A 36 0 i).toInt ≤ 6) (hso : S 20 0 27 = 0 → 0 ≤ (S 20 0 29).toInt ∧ (S 20 0 29).toInt < 60) {ls : Array Slot} (hl : lv_has ls 6 [(0, .ref (ad 20 0)), (1, .int x1), (2, .int x2), (3, .int x3), (4, .int z4), (5, .int z5)]) {o : Int32 × sS × sS} (hO : O7_amount_124 S A G x1 x2 x3 z4 z5 = o) : W p l e (rmk 3) s m args below meth c H locs 0 0 (MQ below (s_Qi D aC ad X G o) args s 0 0 (s_N ad X)) (F0 m 124 ls []) := by
  obtain ⟨hx, hb, hml, hown, hw, hK, hr, hlocks⟩ := id C0
  unfold O7_amount_124 at hO
  refine lv_aload_n hx hb d7_amount_124 rfl (lv_at hl 0 rfl) ?_
  refine sr_get (v := .int (S 20 0 27)) hx hb hw hown hK hB 27 (hX 20 (by decide)) cf_20 us7 (by decide) fl_7_81 (rfl) d7_amount_125 ?_
  refine lv_if_ne (tgt := 161) hx hb d7_amount_128 (by decide) (fun c_1 => ?_) (fun c_1 => ?_)
  · refine lv_aload_n hx hb d7_amount_161 rfl (lv_at hl 0 rfl) ?_
    refine lv_iload hx hb d7_amount_162 (lv_at hl 5 rfl) ?_
    refine sr_vp C0 hB (m7_bookOf hX z5 (by  first | assumption | omega) (fun i hi => hlo i hi)) (hX 20 (by decide)) cf_20 ml_7_169 im_7_bookOf se_7_bookOf in_7 cd_7_bookOf hd7_bookOf ⟨⟨rfl, rfl⟩, by decide, by decide⟩ ⟨Nat.zero_le _, Nat.zero_le _⟩ hl.1 rfl (Nat.le_of_ble_eq_true rfl) d7_amount_164 ?_
    exact se_i C0 hB (by rw [if_neg c_1] at hO; exact hO) d7_amount_167
  · refine lv_iload_n hx hb d7_amount_131 rfl (lv_at hl 1 rfl) ?_
    refine lv_if_le (tgt := 161) hx hb d7_amount_132 (by decide) (fun c_2 => ?_) (fun c_2 => ?_)
    · refine lv_aload_n hx hb d7_amount_161 rfl (lv_at hl 0 rfl) ?_
      refine lv_iload hx hb d7_amount_162 (lv_at hl 5 rfl) ?_
      refine sr_vp C0 hB (m7_bookOf hX z5 (by (have kc_2 := le_i c_2); (have l0 : (0 : Int32).toInt = 0 := rfl);  first | assumption | omega) (fun i hi => hlo i hi)) (hX 20 (by decide)) cf_20 ml_7_169 im_7_bookOf se_7_bookOf in_7 cd_7_bookOf hd7_bookOf ⟨⟨rfl, rfl⟩, by decide, by decide⟩ ⟨Nat.zero_le _, Nat.zero_le _⟩ hl.1 rfl (Nat.le_of_ble_eq_true rfl) d7_amount_164 ?_
      exact se_i C0 hB (by rw [if_pos c_1, if_pos c_2] at hO; exact hO) d7_amount_167
    · refine lv_aload_n hx hb d7_amount_135 rfl (lv_at hl 0 rfl) ?_
      refine sr_get (v := .ref (ad 43 0)) hx hb hw hown hK hB 22 (hX 20 (by decide)) cf_20 us7 (by decide) fl_7_66 (rfl) d7_amount_136 ?_
      refine lv_aload_n hx hb d7_amount_139 rfl (lv_at hl 0 rfl) ?_
      refine sr_get (v := .int (S 20 0 29)) hx hb hw hown hK hB 29 (hX 20 (by decide)) cf_20 us7 (by decide) fl_7_124 (rfl) d7_amount_140 ?_
      refine lv_dup2_11 hx hb d7_amount_143 rfl rfl ?_
      refine sr_iald (v := A 43 0 ((S 20 0 29).toNatClampNeg)) hx hb hK hB (hX 43 (by decide)) rfl rfl (by (refine vp_in_iff.mpr ?_); (show 0 ≤ (S 20 0 29).toInt ∧ (S 20 0 29).toInt < ((60 : Nat) : Int)); (have qs := hso (by assumption));  omega) d7_amount_144 (rfl) ?_
      refine lv_iload_n hx hb d7_amount_145 rfl (lv_at hl 1 rfl) ?_
      refine lv_isub hx hb d7_amount_146 ?_
      refine sr_iast hx hb hK hB (hX 43 (by decide)) rfl rfl (by (refine vp_in_iff.mpr ?_); (show 0 ≤ (S 20 0 29).toInt ∧ (S 20 0 29).toInt < ((60 : Nat) : Int)); (have qs := hso (by assumption));  omega) d7_amount_147 (fun H locs hB => ?_)
      refine lv_aload_n hx hb d7_amount_148 rfl (lv_at hl 0 rfl) ?_
      refine sr_get (v := .ref (ad 47 0)) hx hb hw hown hK hB 26 (hX 20 (by decide)) cf_20 us7 (by decide) fl_7_78 (rfl) d7_amount_149 ?_
      refine lv_aload_n hx hb d7_amount_152 rfl (lv_at hl 0 rfl) ?_
      refine sr_get (v := .int (S 20 0 29)) hx hb hw hown hK hB 29 (hX 20 (by decide)) cf_20 us7 (by decide) fl_7_124 (rfl) d7_amount_153 ?_
      refine lv_aload_n hx hb d7_amount_156 rfl (lv_at hl 0 rfl) ?_
      refine sr_get (v := .int (S 20 0 0)) hx hb hw hown hK hB 0 (hX 20 (by decide)) cf_20 us7 (by decide) fl_7_100 (rfl) d7_amount_157 ?_
      refine sr_iast hx hb hK hB (hX 47 (by decide)) rfl rfl (by (refine vp_in_iff.mpr ?_); (show 0 ≤ (S 20 0 29).toInt ∧ (S 20 0 29).toInt < ((60 : Nat) : Int)); (have qs := hso (by assumption));  omega) d7_amount_160 (fun H locs hB => ?_)
      refine lv_aload_n hx hb d7_amount_161 rfl (lv_at hl 0 rfl) ?_
      refine lv_iload hx hb d7_amount_162 (lv_at hl 5 rfl) ?_
      refine sr_vp C0 hB (m7_bookOf hX z5 (by (have kc_2 := nle_i c_2); (have l0 : (0 : Int32).toInt = 0 := rfl);  first | assumption | omega) (fun i hi => hlo i hi)) (hX 20 (by decide)) cf_20 ml_7_169 im_7_bookOf se_7_bookOf in_7 cd_7_bookOf hd7_bookOf ⟨⟨rfl, rfl⟩, by decide, by decide⟩ ⟨Nat.zero_le _, Nat.zero_le _⟩ hl.1 rfl (Nat.le_of_ble_eq_true rfl) d7_amount_164 ?_
      exact se_i C0 hB (by rw [if_pos c_1, if_neg c_2] at hO; exact hO) d7_amount_167
set_option maxRecDepth 100000 in
set_option maxHeartbeats 4000000 in
theorem k7_amount_101 {p : Program} {l : Launch} {e : Env} {s : State} {m : MethodId} {args : Array Value} {below : List Frame} {meth : Method} {c : Code} {D : va_G} {aC : Nat → ClassId} {ad : Nat → Nat → Nat} {X : Nat → Nat → Prop} {S A : sS} {G : sG} {H : Heap} {locs : List Loc} (C0 : s_C p s m args meth c b7_amount 6 R7 (some .int) D aC) (hB : s_B D aC ad X (s_N ad X) S A G s.heap H locs) (hX : xR X) (x1 : Int32) (x2 : Int32) (x3 : Int32) (z4 : Int32) (z5 : Int32) (hen3 : 0 ≤ (S 20 0 34).toInt ∧ (S 20 0 34).toInt < 300) (hz5 : 0 ≤ z5.toInt ∧ z5.toInt < 64) (hlo : ∀ i, i < 64 → 0 ≤ (A 36 0 i).toInt ∧ (A 36 0 i).toInt ≤ 6) (hso : S 20 0 27 = 0 → 0 ≤ (S 20 0 29).toInt ∧ (S 20 0 29).toInt < 60) {ls : Array Slot} (hl : lv_has ls 6 [(0, .ref (ad 20 0)), (1, .int x1), (2, .int x2), (3, .int x3), (4, .int z4), (5, .int z5)]) {o : Int32 × sS × sS} (hO : O7_amount_101 S A G x1 x2 x3 z4 z5 = o) : W p l e (rmk 3) s m args below meth c H locs 0 0 (MQ below (s_Qi D aC ad X G o) args s 0 0 (s_N ad X)) (F0 m 101 ls []) := by
  obtain ⟨hx, hb, hml, hown, hw, hK, hr, hlocks⟩ := id C0
  unfold O7_amount_101 at hO
  refine lv_aload_n hx hb d7_amount_101 rfl (lv_at hl 0 rfl) ?_
  refine lv_aload_n hx hb d7_amount_102 rfl (lv_at hl 0 rfl) ?_
  refine sr_get (v := .int (S 20 0 27)) hx hb hw hown hK hB 27 (hX 20 (by decide)) cf_20 us7 (by decide) fl_7_81 (rfl) d7_amount_103 ?_
  refine lv_if_ne (tgt := 113) hx hb d7_amount_106 (by decide) (fun c_1 => ?_) (fun c_1 => ?_)
  · refine lv_iconst (v := 4) hx hb d7_amount_113 (by decide) ?_
    refine lv_iload hx hb d7_amount_114 (lv_at hl 5 rfl) ?_
    refine lv_iload_n hx hb d7_amount_116 rfl (lv_at hl 1 rfl) ?_
    refine lv_aload_n hx hb d7_amount_117 rfl (lv_at hl 0 rfl) ?_
    refine sr_get (v := .int (S 20 0 29)) hx hb hw hown hK hB 29 (hX 20 (by decide)) cf_20 us7 (by decide) fl_7_124 (rfl) d7_amount_118 ?_
    refine sr_vv C0 hB (m7_note hX 4 z5 x1 (S 20 0 29) (by  first | assumption | omega)) (hX 20 (by decide)) cf_20 ml_7_180 im_7_note se_7_note in_7 cd_7_note hd7_note ⟨⟨rfl, rfl⟩, by decide, by decide⟩ ⟨Nat.zero_le _, Nat.zero_le _⟩ hl.1 rfl (Nat.le_of_ble_eq_true rfl) d7_amount_121 (fun H locs hB => ?_)
    exact k7_amount_124 C0 hB hX x1 x2 x3 z4 z5 (hz5) (fun i hi => hlo i hi) (fun h => hso h) (lv_sub hl [0, 1, 2, 3, 4, 5] rfl) (by rw [if_neg c_1] at hO; exact hO)
  · refine lv_iconst (v := 2) hx hb d7_amount_109 (by decide) ?_
    refine lv_goto (tgt := 114) hx hb d7_amount_110 (by decide) ?_
    refine lv_iload hx hb d7_amount_114 (lv_at hl 5 rfl) ?_
    refine lv_iload_n hx hb d7_amount_116 rfl (lv_at hl 1 rfl) ?_
    refine lv_aload_n hx hb d7_amount_117 rfl (lv_at hl 0 rfl) ?_
    refine sr_get (v := .int (S 20 0 29)) hx hb hw hown hK hB 29 (hX 20 (by decide)) cf_20 us7 (by decide) fl_7_124 (rfl) d7_amount_118 ?_
    refine sr_vv C0 hB (m7_note hX 2 z5 x1 (S 20 0 29) (by  first | assumption | omega)) (hX 20 (by decide)) cf_20 ml_7_180 im_7_note se_7_note in_7 cd_7_note hd7_note ⟨⟨rfl, rfl⟩, by decide, by decide⟩ ⟨Nat.zero_le _, Nat.zero_le _⟩ hl.1 rfl (Nat.le_of_ble_eq_true rfl) d7_amount_121 (fun H locs hB => ?_)
    exact k7_amount_124 C0 hB hX x1 x2 x3 z4 z5 (hz5) (fun i hi => hlo i hi) (fun h => hso h) (lv_sub hl [0, 1, 2, 3, 4, 5] rfl) (by rw [if_pos c_1] at hO; exact hO)
set_option maxRecDepth 100000 in
set_option maxHeartbeats 4000000 in
theorem k7_amount_78 {p : Program} {l : Launch} {e : Env} {s : State} {m : MethodId} {args : Array Value} {below : List Frame} {meth : Method} {c : Code} {D : va_G} {aC : Nat → ClassId} {ad : Nat → Nat → Nat} {X : Nat → Nat → Prop} {S A : sS} {G : sG} {H : Heap} {locs : List Loc} (C0 : s_C p s m args meth c b7_amount 6 R7 (some .int) D aC) (hB : s_B D aC ad X (s_N ad X) S A G s.heap H locs) (hX : xR X) (x1 : Int32) (x2 : Int32) (x3 : Int32) (z4 : Int32) (z5 : Int32) (hz5 : 0 ≤ z5.toInt ∧ z5.toInt < 64) (hlo : ∀ i, i < 64 → 0 ≤ (A 36 0 i).toInt ∧ (A 36 0 i).toInt ≤ 6) (hso : S 20 0 27 = 0 → 0 ≤ (S 20 0 29).toInt ∧ (S 20 0 29).toInt < 60) {ls : Array Slot} (hl : lv_has ls 6 [(0, .ref (ad 20 0)), (1, .int x1), (2, .int x2), (3, .int x3), (4, .int z4), (5, .int z5)]) {o : Int32 × sS × sS} (hO : O7_amount_78 S A G x1 x2 x3 z4 z5 = o) : W p l e (rmk 3) s m args below meth c H locs 0 0 (MQ below (s_Qi D aC ad X G o) args s 0 0 (s_N ad X)) (F0 m 78 ls []) := by
  obtain ⟨hx, hb, hml, hown, hw, hK, hr, hlocks⟩ := id C0
  unfold O7_amount_78 at hO
  refine lv_goto (tgt := 124) hx hb d7_amount_78 (by decide) ?_
  exact k7_amount_124 C0 hB hX x1 x2 x3 z4 z5 (hz5) (fun i hi => hlo i hi) (fun h => hso h) (lv_sub hl [0, 1, 2, 3, 4, 5] rfl) (hO)
set_option maxRecDepth 100000 in
set_option maxHeartbeats 4000000 in
theorem k7_amount_69 {p : Program} {l : Launch} {e : Env} {s : State} {m : MethodId} {args : Array Value} {below : List Frame} {meth : Method} {c : Code} {D : va_G} {aC : Nat → ClassId} {ad : Nat → Nat → Nat} {X : Nat → Nat → Prop} {S A : sS} {G : sG} {H : Heap} {locs : List Loc} (C0 : s_C p s m args meth c b7_amount 6 R7 (some .int) D aC) (hB : s_B D aC ad X (s_N ad X) S A G s.heap H locs) (hX : xR X) (x1 : Int32) (x2 : Int32) (x3 : Int32) (z4 : Int32) (z5 : Int32) (hen3 : 0 ≤ (S 20 0 34).toInt ∧ (S 20 0 34).toInt < 300) (hz5 : 0 ≤ z5.toInt ∧ z5.toInt < 64) (hlo : ∀ i, i < 64 → 0 ≤ (A 36 0 i).toInt ∧ (A 36 0 i).toInt ≤ 6) (hso : S 20 0 27 = 0 → 0 ≤ (S 20 0 29).toInt ∧ (S 20 0 29).toInt < 60) {ls : Array Slot} (hl : lv_has ls 6 [(0, .ref (ad 20 0)), (1, .int x1), (2, .int x2), (3, .int x3), (4, .int z4), (5, .int z5)]) {o : Int32 × sS × sS} (hO : O7_amount_69 S A G x1 x2 x3 z4 z5 = o) : W p l e (rmk 3) s m args below meth c H locs 0 0 (MQ below (s_Qi D aC ad X G o) args s 0 0 (s_N ad X)) (F0 m 69 ls []) := by
  obtain ⟨hx, hb, hml, hown, hw, hK, hr, hlocks⟩ := id C0
  unfold O7_amount_69 at hO
  refine lv_aload_n hx hb d7_amount_69 rfl (lv_at hl 0 rfl) ?_
  refine lv_iconst (v := 1) hx hb d7_amount_70 (by decide) ?_
  refine lv_iload hx hb d7_amount_71 (lv_at hl 5 rfl) ?_
  refine lv_iload_n hx hb d7_amount_73 rfl (lv_at hl 1 rfl) ?_
  refine lv_iconst (v := (-1)) hx hb d7_amount_74 (by decide) ?_
  refine sr_vv C0 hB (m7_note hX 1 z5 x1 (-1) (by (have lx1 := ln1);  first | assumption | omega)) (hX 20 (by decide)) cf_20 ml_7_180 im_7_note se_7_note in_7 cd_7_note hd7_note ⟨⟨rfl, rfl⟩, by decide, by decide⟩ ⟨Nat.zero_le _, Nat.zero_le _⟩ hl.1 rfl (Nat.le_of_ble_eq_true rfl) d7_amount_75 (fun H locs hB => ?_)
  exact k7_amount_78 C0 hB hX x1 x2 x3 z4 z5 (hz5) (fun i hi => hlo i hi) (fun h => hso h) (lv_sub hl [0, 1, 2, 3, 4, 5] rfl) (hO)
set_option maxRecDepth 100000 in
set_option maxHeartbeats 4000000 in
theorem k7_amount_0 {p : Program} {l : Launch} {e : Env} {s : State} {m : MethodId} {args : Array Value} {below : List Frame} {meth : Method} {c : Code} {D : va_G} {aC : Nat → ClassId} {ad : Nat → Nat → Nat} {X : Nat → Nat → Prop} {S A : sS} {G : sG} {H : Heap} {locs : List Loc} (C0 : s_C p s m args meth c b7_amount 6 R7 (some .int) D aC) (hB : s_B D aC ad X (s_N ad X) S A G s.heap H locs) (hX : xR X) (x1 : Int32) (x2 : Int32) (x3 : Int32) (hlo : ∀ i, i < 64 → 0 ≤ (A 36 0 i).toInt ∧ (A 36 0 i).toInt ≤ 6) (hsb : 0 ≤ (S 20 0 28).toInt ∧ (S 20 0 28).toInt < 64) (hso : S 20 0 27 = 0 → 0 ≤ (S 20 0 29).toInt ∧ (S 20 0 29).toInt < 60) (hen : 0 ≤ (S 20 0 34).toInt ∧ (S 20 0 34).toInt ≤ 300) (hf6 : 0 ≤ V7_refusal S A G x1 x2 x3 → S 20 0 27 = 1 → (A 36 0 (S 20 0 28).toNatClampNeg).toInt < 6) (hent : 0 ≤ V7_refusal S A G x1 x2 x3 → (S 20 0 34).toInt < 300) {ls : Array Slot} (hl : lv_has ls 6 [(0, .ref (ad 20 0)), (1, .int x1), (2, .int x2), (3, .int x3)]) {o : Int32 × sS × sS} (hO : O7_amount S A G x1 x2 x3 = o) : W p l e (rmk 3) s m args below meth c H locs 0 0 (MQ below (s_Qi D aC ad X G o) args s 0 0 (s_N ad X)) (F0 m 0 ls []) := by
  obtain ⟨hx, hb, hml, hown, hw, hK, hr, hlocks⟩ := id C0
  unfold O7_amount at hO
  refine lv_aload_n hx hb d7_amount_0 rfl (lv_at hl 0 rfl) ?_
  refine lv_iload_n hx hb d7_amount_1 rfl (lv_at hl 1 rfl) ?_
  refine lv_iload_n hx hb d7_amount_2 rfl (lv_at hl 2 rfl) ?_
  refine lv_iload_n hx hb d7_amount_3 rfl (lv_at hl 3 rfl) ?_
  refine sr_vp C0 hB (m7_refusal hX x1 x2 x3 (by  first | assumption | omega) (by  first | assumption | omega) (by  first | assumption | omega)) (hX 20 (by decide)) cf_20 ml_7_184 im_7_refusal se_7_refusal in_7 cd_7_refusal hd7_refusal ⟨⟨rfl, rfl⟩, by decide, by decide⟩ ⟨Nat.zero_le _, Nat.zero_le _⟩ hl.1 rfl (Nat.le_of_ble_eq_true rfl) d7_amount_4 ?_
  refine lv_istore (lv' := [(4, .int (V7_refusal S A G x1 x2 x3)), (0, .ref (ad 20 0)), (1, .int x1), (2, .int x2), (3, .int x3)]) hx hb d7_amount_7 hl (by decide) rfl (fun ls hl => ?_)
  refine lv_iload hx hb d7_amount_9 (lv_at hl 0 rfl) ?_
  refine lv_bipush (v := (-7)) hx hb d7_amount_11 (by decide) ?_
  refine lv_icmp_ne (tgt := 26) hx hb d7_amount_13 (by decide) (fun c_1 => ?_) (fun c_1 => ?_)
  · refine lv_iload hx hb d7_amount_26 (lv_at hl 0 rfl) ?_
    refine lv_if_ge (tgt := 34) hx hb d7_amount_28 (by decide) (fun c_2 => ?_) (fun c_2 => ?_)
    · refine lv_aload_n hx hb d7_amount_34 rfl (lv_at hl 1 rfl) ?_
      refine sr_get (v := .int (S 20 0 28)) hx hb hw hown hK hB 28 (hX 20 (by decide)) cf_20 us7 (by decide) fl_7_153 (rfl) d7_amount_35 ?_
      refine lv_istore (lv' := [(5, .int (S 20 0 28)), (4, .int (V7_refusal S A G x1 x2 x3)), (0, .ref (ad 20 0)), (1, .int x1), (2, .int x2), (3, .int x3)]) hx hb d7_amount_38 hl (by decide) rfl (fun ls hl => ?_)
      refine lv_aload_n hx hb d7_amount_40 rfl (lv_at hl 2 rfl) ?_
      refine lv_iconst (v := 1) hx hb d7_amount_41 (by decide) ?_
      refine sr_put hx hb hw hown hK hB 33 (hX 20 (by decide)) cf_20 us7 tk7 nm7 (by decide) fl_7_166 rfl rfl rfl rfl d7_amount_42 (fun H locs hB => ?_)
      refine lv_aload_n hx hb d7_amount_45 rfl (lv_at hl 2 rfl) ?_
      refine sr_get (v := .int (S 20 0 27)) hx hb hw hown hK hB 27 (hX 20 (by decide)) cf_20 us7 (by decide) fl_7_81 (rfl) d7_amount_46 ?_
      refine lv_iconst (v := 1) hx hb d7_amount_49 (by decide) ?_
      refine lv_icmp_ne (tgt := 81) hx hb d7_amount_50 (by decide) (fun c_3 => ?_) (fun c_3 => ?_)
      · refine lv_aload_n hx hb d7_amount_81 rfl (lv_at hl 2 rfl) ?_
        refine lv_iload hx hb d7_amount_82 (lv_at hl 0 rfl) ?_
        refine lv_iload_n hx hb d7_amount_84 rfl (lv_at hl 3 rfl) ?_
        refine lv_aload_n hx hb d7_amount_85 rfl (lv_at hl 2 rfl) ?_
        refine sr_get (v := .int (S 20 0 27)) hx hb hw hown hK hB 27 (hX 20 (by decide)) cf_20 us7 (by decide) fl_7_81 (rfl) d7_amount_86 ?_
        refine lv_iconst (v := 3) hx hb d7_amount_89 (by decide) ?_
        refine lv_icmp_ne (tgt := 97) hx hb d7_amount_90 (by decide) (fun c_4 => ?_) (fun c_4 => ?_)
        · refine lv_iconst (v := 0) hx hb d7_amount_97 (by decide) ?_
          refine sr_vv C0 hB (m7_takeUnits hX (S 20 0 28) x1 0 (by  first | assumption | omega) (by  first | assumption | omega)) (hX 20 (by decide)) cf_20 ml_7_172 im_7_takeUnits se_7_takeUnits in_7 cd_7_takeUnits hd7_takeUnits ⟨⟨rfl, rfl⟩, by decide, by decide⟩ ⟨Nat.zero_le _, Nat.zero_le _⟩ hl.1 rfl (Nat.le_of_ble_eq_true rfl) d7_amount_98 (fun H locs hB => ?_)
          exact k7_amount_101 C0 hB hX x1 x2 x3 (V7_refusal S A G x1 x2 x3) (S 20 0 28) (by rw [(takeUnits_lo (S := up3 S 20 0 33 1) (A := A) (G := G) (x2 := x1) hsb hlo).1]; exact ⟨hen.1, hent (by assumption)⟩) (hsb) ((takeUnits_lo (S := up3 S 20 0 33 1) (A := A) (G := G) (x2 := x1) hsb hlo).2) (by rw [(takeUnits_lo (S := up3 S 20 0 33 1) (A := A) (G := G) (x2 := x1) hsb hlo).1]; exact hso) (lv_sub hl [2, 3, 4, 5, 1, 0] rfl) (by rw [if_neg c_1, if_pos c_2, if_neg c_3, if_neg c_4] at hO; exact hO)
        · refine lv_iconst (v := 1) hx hb d7_amount_93 (by decide) ?_
          refine lv_goto (tgt := 98) hx hb d7_amount_94 (by decide) ?_
          refine sr_vv C0 hB (m7_takeUnits hX (S 20 0 28) x1 1 (by  first | assumption | omega) (by  first | assumption | omega)) (hX 20 (by decide)) cf_20 ml_7_172 im_7_takeUnits se_7_takeUnits in_7 cd_7_takeUnits hd7_takeUnits ⟨⟨rfl, rfl⟩, by decide, by decide⟩ ⟨Nat.zero_le _, Nat.zero_le _⟩ hl.1 rfl (Nat.le_of_ble_eq_true rfl) d7_amount_98 (fun H locs hB => ?_)
          exact k7_amount_101 C0 hB hX x1 x2 x3 (V7_refusal S A G x1 x2 x3) (S 20 0 28) (by rw [(takeUnits_lo (S := up3 S 20 0 33 1) (A := A) (G := G) (x2 := x1) hsb hlo).1]; exact ⟨hen.1, hent (by assumption)⟩) (hsb) ((takeUnits_lo (S := up3 S 20 0 33 1) (A := A) (G := G) (x2 := x1) hsb hlo).2) (by rw [(takeUnits_lo (S := up3 S 20 0 33 1) (A := A) (G := G) (x2 := x1) hsb hlo).1]; exact hso) (lv_sub hl [2, 3, 4, 5, 1, 0] rfl) (by rw [if_neg c_1, if_pos c_2, if_neg c_3, if_pos c_4] at hO; exact hO)
      · refine lv_aload_n hx hb d7_amount_53 rfl (lv_at hl 2 rfl) ?_
        refine sr_get (v := .ref (ad 35 0)) hx hb hw hown hK hB 14 (hX 20 (by decide)) cf_20 us7 (by decide) fl_7_45 (rfl) d7_amount_54 ?_
        refine lv_iload hx hb d7_amount_57 (lv_at hl 0 rfl) ?_
        refine lv_iload_n hx hb d7_amount_59 rfl (lv_at hl 4 rfl) ?_
        refine sr_iast hx hb hK hB (hX 35 (by decide)) rfl rfl (by (refine vp_in_iff.mpr ?_); (show 0 ≤ (S 20 0 28).toInt ∧ (S 20 0 28).toInt < ((64 : Nat) : Int));  omega) d7_amount_60 (fun H locs hB => ?_)
        refine lv_aload_n hx hb d7_amount_61 rfl (lv_at hl 2 rfl) ?_
        refine lv_iload hx hb d7_amount_62 (lv_at hl 0 rfl) ?_
        refine lv_iload_n hx hb d7_amount_64 rfl (lv_at hl 5 rfl) ?_
        refine lv_iload_n hx hb d7_amount_65 rfl (lv_at hl 3 rfl) ?_
        refine sr_vv C0 hB (m7_putLot hX (S 20 0 28) x3 x1 (by  first | assumption | omega) (fun i hi => hlo i hi) (hf6 (by assumption) (by assumption))) (hX 20 (by decide)) cf_20 ml_7_176 im_7_putLot se_7_putLot in_7 cd_7_putLot hd7_putLot ⟨⟨rfl, rfl⟩, by decide, by decide⟩ ⟨Nat.zero_le _, Nat.zero_le _⟩ hl.1 rfl (Nat.le_of_ble_eq_true rfl) d7_amount_66 (fun H locs hB => ?_)
        exact k7_amount_69 C0 hB hX x1 x2 x3 (V7_refusal S A G x1 x2 x3) (S 20 0 28) (by rw [(putLot_lo (S := up3 S 20 0 33 1) (A := up3 A 35 0 ((S 20 0 28).toNatClampNeg) x2) (G := G) (x2 := x3) (x3 := x1) hsb (fun i hi => hlo i hi) (hf6 (by assumption) (by assumption))).1]; exact ⟨hen.1, hent (by assumption)⟩) (hsb) ((putLot_lo (S := up3 S 20 0 33 1) (A := up3 A 35 0 ((S 20 0 28).toNatClampNeg) x2) (G := G) (x2 := x3) (x3 := x1) hsb (fun i hi => hlo i hi) (hf6 (by assumption) (by assumption))).2) (by rw [(putLot_lo (S := up3 S 20 0 33 1) (A := up3 A 35 0 ((S 20 0 28).toNatClampNeg) x2) (G := G) (x2 := x3) (x3 := x1) hsb (fun i hi => hlo i hi) (hf6 (by assumption) (by assumption))).1]; exact hso) (lv_sub hl [2, 3, 4, 5, 1, 0] rfl) (by rw [if_neg c_1, if_pos c_2, if_pos c_3] at hO; exact hO)
    · refine lv_iload hx hb d7_amount_31 (lv_at hl 0 rfl) ?_
      exact se_i C0 hB (by rw [if_neg c_1, if_neg c_2] at hO; exact hO) d7_amount_33
  · refine lv_aload_n hx hb d7_amount_16 rfl (lv_at hl 1 rfl) ?_
    refine lv_iconst (v := 1) hx hb d7_amount_17 (by decide) ?_
    refine sr_put hx hb hw hown hK hB 31 (hX 20 (by decide)) cf_20 us7 tk7 nm7 (by decide) fl_7_159 rfl rfl rfl rfl d7_amount_18 (fun H locs hB => ?_)
    refine lv_aload_n hx hb d7_amount_21 rfl (lv_at hl 1 rfl) ?_
    refine lv_iconst (v := 0) hx hb d7_amount_22 (by decide) ?_
    refine sr_put hx hb hw hown hK hB 32 (hX 20 (by decide)) cf_20 us7 tk7 nm7 (by decide) fl_7_163 rfl rfl rfl rfl d7_amount_23 (fun H locs hB => ?_)
    refine lv_iload hx hb d7_amount_26 (lv_at hl 0 rfl) ?_
    refine lv_if_ge (tgt := 34) hx hb d7_amount_28 (by decide) (fun c => absurd c (by rw [c_1]; decide)) (fun _ => ?_)
    refine lv_iload hx hb d7_amount_31 (lv_at hl 0 rfl) ?_
    exact se_i C0 hB (by rw [if_pos c_1] at hO; exact hO) d7_amount_33
theorem hd7_amount : y7_amount.cls = R7 ∧ y7_amount.cls ≠ "java/lang/invoke/MethodHandle" ∧ y7_amount.cls ≠ "java/lang/invoke/VarHandle" ∧ (parseMethodDescriptor y7_amount.desc).map (fun d => d.parameters.length) = some 3 := ⟨rfl, by decide, by decide, by decide +kernel⟩
theorem m7_amount {l : Launch} {D : va_G} {aC : Nat → ClassId} {ad : Nat → Nat → Nat} {X : Nat → Nat → Prop} {S A : sS} {G : sG} (hX : xR X) (x1 : Int32) (x2 : Int32) (x3 : Int32) (hlo : ∀ i, i < 64 → 0 ≤ (A 36 0 i).toInt ∧ (A 36 0 i).toInt ≤ 6) (hsb : 0 ≤ (S 20 0 28).toInt ∧ (S 20 0 28).toInt < 64) (hso : S 20 0 27 = 0 → 0 ≤ (S 20 0 29).toInt ∧ (S 20 0 29).toInt < 60) (hen : 0 ≤ (S 20 0 34).toInt ∧ (S 20 0 34).toInt ≤ 300) (hf6 : 0 ≤ V7_refusal S A G x1 x2 x3 → S 20 0 27 = 1 → (A 36 0 (S 20 0 28).toNatClampNeg).toInt < 6) (hent : 0 ≤ V7_refusal S A G x1 x2 x3 → (S 20 0 34).toInt < 300) : Met l y7_amount (.code y7_amount b7_amount 6 (some .int) :: wall) (rmk 3) (s_Pc [.ref (ad 20 0), .int x1, .int x2, .int x3] D aC ad X S A G) (s_Qi D aC ad X G (O7_amount S A G x1 x2 x3)) 0 0 (s_N ad X) :=
  s_met (by decide) rfl (Nat.le_of_ble_eq_true rfl) (fun p e s m args below meth c C0 hB ls hl => k7_amount_0 C0 hB hX x1 x2 x3 hlo hsb hso hen hf6 hent hl rfl)

def VV7_alarms_4 (S A : sS) (G : sG)  : Nat → Int32 → Nat → Int32
  | 0, _, _ => 0
  | r + 1, z1, j2 => if 16 ≤ nI j2 then z1 else if z1 = 0 then if A 22 0 j2 = 0 then VV7_alarms_4 S A G   r 0 (j2 + 1) else if A 26 0 j2 ≤ S 20 0 0 then VV7_alarms_4 S A G   r 0 (j2 + 1) else VV7_alarms_4 S A G   r 1 (j2 + 1) else VV7_alarms_4 S A G   r 1 (j2 + 1)
def VV7_alarms_52 (S A : sS) (G : sG) (y1 : Int32) : Nat → Int32 → Nat → Int32
  | 0, _, _ => 0
  | r + 1, z2, j3 => if 32 ≤ nI j3 then z2 else if z2 = 0 then if V7_isWanted S A G (nI j3) = 0 then VV7_alarms_52 S A G  y1 r 0 (j3 + 1) else VV7_alarms_52 S A G  y1 r 1 (j3 + 1) else VV7_alarms_52 S A G  y1 r 1 (j3 + 1)
def VV7_alarms_87 (S A : sS) (G : sG) (y1 : Int32) (y2 : Int32) : Nat → Int32 → Nat → Int32
  | 0, _, _ => 0
  | r + 1, z3, j4 => if 64 ≤ nI j4 then z3 else if z3 = 0 then if V7_bookOf S A G (nI j4) ≤ V7_givableOf S A G (nI j4) then VV7_alarms_87 S A G  y1 y2 r 0 (j4 + 1) else VV7_alarms_87 S A G  y1 y2 r 1 (j4 + 1) else VV7_alarms_87 S A G  y1 y2 r 1 (j4 + 1)
def V7_alarms_200 (S A : sS) (G : sG) (z1 : Int32) (z2 : Int32) (z3 : Int32) (z4 : Int32) (t0 : Int32) (t1 : Int32) : Int32 := t1 + t0
def V7_alarms_189 (S A : sS) (G : sG) (z1 : Int32) (z2 : Int32) (z3 : Int32) (z4 : Int32) (t0 : Int32) (t1 : Int32) : Int32 := if z3 = 0 then V7_alarms_200 S A G z1 z2 z3 z4 0 (t1 + t0) else V7_alarms_200 S A G z1 z2 z3 z4 16 (t1 + t0)
def V7_alarms_174 (S A : sS) (G : sG) (z1 : Int32) (z2 : Int32) (z3 : Int32) (z4 : Int32) (t0 : Int32) (t1 : Int32) : Int32 := if 2 ≤ V7_wholeCopies S A G  then V7_alarms_189 S A G z1 z2 z3 z4 0 (t1 + t0) else V7_alarms_189 S A G z1 z2 z3 z4 8 (t1 + t0)
def V7_alarms_164 (S A : sS) (G : sG) (z1 : Int32) (z2 : Int32) (z3 : Int32) (z4 : Int32) (t0 : Int32) (t1 : Int32) : Int32 := if z2 = 0 then V7_alarms_174 S A G z1 z2 z3 z4 0 (t1 + t0) else V7_alarms_174 S A G z1 z2 z3 z4 4 (t1 + t0)
def V7_alarms_151 (S A : sS) (G : sG) (z1 : Int32) (z2 : Int32) (z3 : Int32) (t0 : Int32) : Int32 := if z1 = 0 then V7_alarms_164 S A G z1 z2 z3 t0 0 t0 else V7_alarms_164 S A G z1 z2 z3 t0 2 t0
def V7_alarms (S A : sS) (G : sG)  : Int32 := if S 20 0 27 < 0 then V7_alarms_151 S A G (VV7_alarms_4 S A G   17 0 0) (VV7_alarms_52 S A G  (VV7_alarms_4 S A G   17 0 0) 33 0 0) (VV7_alarms_87 S A G  (VV7_alarms_4 S A G   17 0 0) (VV7_alarms_52 S A G  (VV7_alarms_4 S A G   17 0 0) 33 0 0) 65 0 0) 0 else if (S 20 0 0) - (S 20 0 30) < 40 then V7_alarms_151 S A G (VV7_alarms_4 S A G   17 0 0) (VV7_alarms_52 S A G  (VV7_alarms_4 S A G   17 0 0) 33 0 0) (VV7_alarms_87 S A G  (VV7_alarms_4 S A G   17 0 0) (VV7_alarms_52 S A G  (VV7_alarms_4 S A G   17 0 0) 33 0 0) 65 0 0) 0 else V7_alarms_151 S A G (VV7_alarms_4 S A G   17 0 0) (VV7_alarms_52 S A G  (VV7_alarms_4 S A G   17 0 0) 33 0 0) (VV7_alarms_87 S A G  (VV7_alarms_4 S A G   17 0 0) (VV7_alarms_52 S A G  (VV7_alarms_4 S A G   17 0 0) 33 0 0) 65 0 0) 1
set_option maxRecDepth 100000 in
set_option maxHeartbeats 4000000 in
theorem kv7_alarms_4 {p : Program} {l : Launch} {e : Env} {s : State} {m : MethodId} {args : Array Value} {below : List Frame} {meth : Method} {c : Code} {D : va_G} {aC : Nat → ClassId} {ad : Nat → Nat → Nat} {X : Nat → Nat → Prop} {G : sG} {S A : sS} {Q : State → Prop} (C0 : s_C p s m args meth c b7_alarms 5 R7 (some .int) D aC) (hB : s_B D aC ad X (s_N ad X) S A G s.heap s.heap []) (hX : xR X)  (hlo : ∀ i, i < 64 → 0 ≤ (A 36 0 i).toInt ∧ (A 36 0 i).toInt ≤ 6)  : ∀ (r : Nat) (z1 : Int32) (j2 : Nat) (hj : j2 ≤ 16) (hr3 : 16 < j2 + r) {ls : Array Slot} (hl : lv_has ls 5 [(0, .ref (ad 20 0)), (1, .int z1), (2, .int (nI j2))]) {o : Int32} (hO : VV7_alarms_4 S A G  r z1 j2 = o) (hk : ∀ ls : Array Slot, lv_has ls 5 [(0, .ref (ad 20 0)), (1, .int o)] → W p l e (rmk 3) s m args below meth c s.heap [] 0 0 Q (F0 m 48 ls [])), W p l e (rmk 3) s m args below meth c s.heap [] 0 0 Q (F0 m 4 ls []) := by
  obtain ⟨hx, hb, hml, hown, hw, hK, hr, hlocks⟩ := id C0
  intro r
  induction r with
  | zero =>
    intro z1 j2 hj hr3 ls hl o hO hk
    exact absurd hr3 (by omega)
  | succ r ih =>
    intro z1 j2 hj hr3 ls hl o hO hk
    rw [VV7_alarms_4] at hO
    refine lv_iload_n hx hb d7_alarms_4 rfl (lv_at hl 2 rfl) ?_
    refine lv_bipush (v := 16) hx hb d7_alarms_5 (by decide) ?_
    refine lv_icmp_ge (tgt := 48) hx hb d7_alarms_7 (by decide) (fun c_101 => ?_) (fun c_101 => ?_)
    · rw [if_pos c_101] at hO
      subst hO
      exact hk _ (lv_sub hl [0, 1] rfl)
    · refine lv_iload_n hx hb d7_alarms_10 rfl (lv_at hl 1 rfl) ?_
      refine lv_if_ne (tgt := 36) hx hb d7_alarms_11 (by decide) (fun c_102 => ?_) (fun c_102 => ?_)
      · refine lv_iconst (v := 1) hx hb d7_alarms_36 (by decide) ?_
        refine lv_goto (tgt := 41) hx hb d7_alarms_37 (by decide) ?_
        refine lv_istore_n (lv' := [(1, .int 1), (0, .ref (ad 20 0)), (2, .int (nI j2))]) hx hb d7_alarms_41 rfl hl (by decide) rfl (fun ls hl => ?_)
        refine lv_iinc (v := nI (j2 + 1)) (lv' := [(2, .int (nI (j2 + 1))), (1, .int 1), (0, .ref (ad 20 0))]) hx hb d7_alarms_42 hl (k := 2) rfl (nI_1 j2) (by decide) rfl (fun ls hl => ?_)
        refine lv_goto (tgt := 4) hx hb d7_alarms_45 (by decide) ?_
        exact ih 1 (j2 + 1) (by (have aj2 := nI_toInt (n := j2) (by omega)); (have kc_101 := nle_i c_101); (have l16 : (16 : Int32).toInt = 16 := rfl);  omega) (by (have aj2 := nI_toInt (n := j2) (by omega)); (have kc_101 := nle_i c_101); (have l16 : (16 : Int32).toInt = 16 := rfl);  omega) (lv_sub hl [2, 1, 0] rfl) (by rw [if_neg c_101, if_neg c_102] at hO; exact hO) hk
      · refine lv_aload_n hx hb d7_alarms_14 rfl (lv_at hl 0 rfl) ?_
        refine sr_get (v := .ref (ad 22 0)) hx hb hw hown hK hB 1 (hX 20 (by decide)) cf_20 us7 (by decide) fl_7_7 (rfl) d7_alarms_15 ?_
        refine lv_iload_n hx hb d7_alarms_18 rfl (lv_at hl 2 rfl) ?_
        refine sr_zald (v := A 22 0 j2) hx hb hK hB (hX 22 (by decide)) rfl rfl (vp_in_nI (show j2 < 16 by (have aj2 := nI_toInt (n := j2) (by omega)); (have kc_101 := nle_i c_101); (have l16 : (16 : Int32).toInt = 16 := rfl);  omega) (by decide)) d7_alarms_19 (s_cl (by omega)) ?_
        refine lv_if_eq (tgt := 40) hx hb d7_alarms_20 (by decide) (fun c_103 => ?_) (fun c_103 => ?_)
        · refine lv_iconst (v := 0) hx hb d7_alarms_40 (by decide) ?_
          refine lv_istore_n (lv' := [(1, .int 0), (0, .ref (ad 20 0)), (2, .int (nI j2))]) hx hb d7_alarms_41 rfl hl (by decide) rfl (fun ls hl => ?_)
          refine lv_iinc (v := nI (j2 + 1)) (lv' := [(2, .int (nI (j2 + 1))), (1, .int 0), (0, .ref (ad 20 0))]) hx hb d7_alarms_42 hl (k := 2) rfl (nI_1 j2) (by decide) rfl (fun ls hl => ?_)
          refine lv_goto (tgt := 4) hx hb d7_alarms_45 (by decide) ?_
          exact ih 0 (j2 + 1) (by (have aj2 := nI_toInt (n := j2) (by omega)); (have kc_101 := nle_i c_101); (have l16 : (16 : Int32).toInt = 16 := rfl);  omega) (by (have aj2 := nI_toInt (n := j2) (by omega)); (have kc_101 := nle_i c_101); (have l16 : (16 : Int32).toInt = 16 := rfl);  omega) (lv_sub hl [2, 1, 0] rfl) (by rw [if_neg c_101, if_pos c_102, if_pos c_103] at hO; exact hO) hk
        · refine lv_aload_n hx hb d7_alarms_23 rfl (lv_at hl 0 rfl) ?_
          refine sr_get (v := .int (S 20 0 0)) hx hb hw hown hK hB 0 (hX 20 (by decide)) cf_20 us7 (by decide) fl_7_100 (rfl) d7_alarms_24 ?_
          refine lv_aload_n hx hb d7_alarms_27 rfl (lv_at hl 0 rfl) ?_
          refine sr_get (v := .ref (ad 26 0)) hx hb hw hown hK hB 5 (hX 20 (by decide)) cf_20 us7 (by decide) fl_7_23 (rfl) d7_alarms_28 ?_
          refine lv_iload_n hx hb d7_alarms_31 rfl (lv_at hl 2 rfl) ?_
          refine sr_iald (v := A 26 0 j2) hx hb hK hB (hX 26 (by decide)) rfl rfl (vp_in_nI (show j2 < 16 by (have aj2 := nI_toInt (n := j2) (by omega)); (have kc_101 := nle_i c_101); (have l16 : (16 : Int32).toInt = 16 := rfl);  omega) (by decide)) d7_alarms_32 (s_cl (by omega)) ?_
          refine lv_icmp_ge (tgt := 40) hx hb d7_alarms_33 (by decide) (fun c_104 => ?_) (fun c_104 => ?_)
          · refine lv_iconst (v := 0) hx hb d7_alarms_40 (by decide) ?_
            refine lv_istore_n (lv' := [(1, .int 0), (0, .ref (ad 20 0)), (2, .int (nI j2))]) hx hb d7_alarms_41 rfl hl (by decide) rfl (fun ls hl => ?_)
            refine lv_iinc (v := nI (j2 + 1)) (lv' := [(2, .int (nI (j2 + 1))), (1, .int 0), (0, .ref (ad 20 0))]) hx hb d7_alarms_42 hl (k := 2) rfl (nI_1 j2) (by decide) rfl (fun ls hl => ?_)
            refine lv_goto (tgt := 4) hx hb d7_alarms_45 (by decide) ?_
            exact ih 0 (j2 + 1) (by (have aj2 := nI_toInt (n := j2) (by omega)); (have kc_101 := nle_i c_101); (have l16 : (16 : Int32).toInt = 16 := rfl);  omega) (by (have aj2 := nI_toInt (n := j2) (by omega)); (have kc_101 := nle_i c_101); (have l16 : (16 : Int32).toInt = 16 := rfl);  omega) (lv_sub hl [2, 1, 0] rfl) (by rw [if_neg c_101, if_pos c_102, if_neg c_103, if_pos c_104] at hO; exact hO) hk
          · refine lv_iconst (v := 1) hx hb d7_alarms_36 (by decide) ?_
            refine lv_goto (tgt := 41) hx hb d7_alarms_37 (by decide) ?_
            refine lv_istore_n (lv' := [(1, .int 1), (0, .ref (ad 20 0)), (2, .int (nI j2))]) hx hb d7_alarms_41 rfl hl (by decide) rfl (fun ls hl => ?_)
            refine lv_iinc (v := nI (j2 + 1)) (lv' := [(2, .int (nI (j2 + 1))), (1, .int 1), (0, .ref (ad 20 0))]) hx hb d7_alarms_42 hl (k := 2) rfl (nI_1 j2) (by decide) rfl (fun ls hl => ?_)
            refine lv_goto (tgt := 4) hx hb d7_alarms_45 (by decide) ?_
            exact ih 1 (j2 + 1) (by (have aj2 := nI_toInt (n := j2) (by omega)); (have kc_101 := nle_i c_101); (have l16 : (16 : Int32).toInt = 16 := rfl);  omega) (by (have aj2 := nI_toInt (n := j2) (by omega)); (have kc_101 := nle_i c_101); (have l16 : (16 : Int32).toInt = 16 := rfl);  omega) (lv_sub hl [2, 1, 0] rfl) (by rw [if_neg c_101, if_pos c_102, if_neg c_103, if_neg c_104] at hO; exact hO) hk
set_option maxRecDepth 100000 in
set_option maxHeartbeats 4000000 in
theorem kv7_alarms_52 {p : Program} {l : Launch} {e : Env} {s : State} {m : MethodId} {args : Array Value} {below : List Frame} {meth : Method} {c : Code} {D : va_G} {aC : Nat → ClassId} {ad : Nat → Nat → Nat} {X : Nat → Nat → Prop} {G : sG} {S A : sS} {Q : State → Prop} (C0 : s_C p s m args meth c b7_alarms 5 R7 (some .int) D aC) (hB : s_B D aC ad X (s_N ad X) S A G s.heap s.heap []) (hX : xR X)  (hlo : ∀ i, i < 64 → 0 ≤ (A 36 0 i).toInt ∧ (A 36 0 i).toInt ≤ 6) (y1 : Int32) : ∀ (r : Nat) (z2 : Int32) (j3 : Nat) (hj : j3 ≤ 32) (hr3 : 32 < j3 + r) {ls : Array Slot} (hl : lv_has ls 5 [(0, .ref (ad 20 0)), (1, .int y1), (2, .int z2), (3, .int (nI j3))]) {o : Int32} (hO : VV7_alarms_52 S A G y1 r z2 j3 = o) (hk : ∀ ls : Array Slot, lv_has ls 5 [(0, .ref (ad 20 0)), (1, .int y1), (2, .int o)] → W p l e (rmk 3) s m args below meth c s.heap [] 0 0 Q (F0 m 82 ls [])), W p l e (rmk 3) s m args below meth c s.heap [] 0 0 Q (F0 m 52 ls []) := by
  obtain ⟨hx, hb, hml, hown, hw, hK, hr, hlocks⟩ := id C0
  intro r
  induction r with
  | zero =>
    intro z2 j3 hj hr3 ls hl o hO hk
    exact absurd hr3 (by omega)
  | succ r ih =>
    intro z2 j3 hj hr3 ls hl o hO hk
    rw [VV7_alarms_52] at hO
    refine lv_iload_n hx hb d7_alarms_52 rfl (lv_at hl 3 rfl) ?_
    refine lv_bipush (v := 32) hx hb d7_alarms_53 (by decide) ?_
    refine lv_icmp_ge (tgt := 82) hx hb d7_alarms_55 (by decide) (fun c_101 => ?_) (fun c_101 => ?_)
    · rw [if_pos c_101] at hO
      subst hO
      exact hk _ (lv_sub hl [0, 1, 2] rfl)
    · refine lv_iload_n hx hb d7_alarms_58 rfl (lv_at hl 2 rfl) ?_
      refine lv_if_ne (tgt := 70) hx hb d7_alarms_59 (by decide) (fun c_102 => ?_) (fun c_102 => ?_)
      · refine lv_iconst (v := 1) hx hb d7_alarms_70 (by decide) ?_
        refine lv_goto (tgt := 75) hx hb d7_alarms_71 (by decide) ?_
        refine lv_istore_n (lv' := [(2, .int 1), (0, .ref (ad 20 0)), (1, .int y1), (3, .int (nI j3))]) hx hb d7_alarms_75 rfl hl (by decide) rfl (fun ls hl => ?_)
        refine lv_iinc (v := nI (j3 + 1)) (lv' := [(3, .int (nI (j3 + 1))), (2, .int 1), (0, .ref (ad 20 0)), (1, .int y1)]) hx hb d7_alarms_76 hl (k := 3) rfl (nI_1 j3) (by decide) rfl (fun ls hl => ?_)
        refine lv_goto (tgt := 52) hx hb d7_alarms_79 (by decide) ?_
        exact ih 1 (j3 + 1) (by (have aj3 := nI_toInt (n := j3) (by omega)); (have kc_101 := nle_i c_101); (have l32 : (32 : Int32).toInt = 32 := rfl);  omega) (by (have aj3 := nI_toInt (n := j3) (by omega)); (have kc_101 := nle_i c_101); (have l32 : (32 : Int32).toInt = 32 := rfl);  omega) (lv_sub hl [2, 3, 1, 0] rfl) (by rw [if_neg c_101, if_neg c_102] at hO; exact hO) hk
      · refine lv_aload_n hx hb d7_alarms_62 rfl (lv_at hl 0 rfl) ?_
        refine lv_iload_n hx hb d7_alarms_63 rfl (lv_at hl 3 rfl) ?_
        refine sr_vp C0 hB (m7_isWanted hX (nI j3) (by (have aj3 := nI_toInt (n := j3) (by omega)); (have kc_101 := nle_i c_101); (have l32 : (32 : Int32).toInt = 32 := rfl);  first | assumption | omega) (by (have aj3 := nI_toInt (n := j3) (by omega)); (have kc_101 := nle_i c_101); (have l32 : (32 : Int32).toInt = 32 := rfl);  first | assumption | omega)) (hX 20 (by decide)) cf_20 ml_7_194 im_7_isWanted se_7_isWanted in_7 cd_7_isWanted hd7_isWanted ⟨⟨rfl, rfl⟩, by decide, by decide⟩ ⟨Nat.zero_le _, Nat.zero_le _⟩ hl.1 rfl (Nat.le_of_ble_eq_true rfl) d7_alarms_64 ?_
        refine lv_if_eq (tgt := 74) hx hb d7_alarms_67 (by decide) (fun c_103 => ?_) (fun c_103 => ?_)
        · refine lv_iconst (v := 0) hx hb d7_alarms_74 (by decide) ?_
          refine lv_istore_n (lv' := [(2, .int 0), (0, .ref (ad 20 0)), (1, .int y1), (3, .int (nI j3))]) hx hb d7_alarms_75 rfl hl (by decide) rfl (fun ls hl => ?_)
          refine lv_iinc (v := nI (j3 + 1)) (lv' := [(3, .int (nI (j3 + 1))), (2, .int 0), (0, .ref (ad 20 0)), (1, .int y1)]) hx hb d7_alarms_76 hl (k := 3) rfl (nI_1 j3) (by decide) rfl (fun ls hl => ?_)
          refine lv_goto (tgt := 52) hx hb d7_alarms_79 (by decide) ?_
          exact ih 0 (j3 + 1) (by (have aj3 := nI_toInt (n := j3) (by omega)); (have kc_101 := nle_i c_101); (have l32 : (32 : Int32).toInt = 32 := rfl);  omega) (by (have aj3 := nI_toInt (n := j3) (by omega)); (have kc_101 := nle_i c_101); (have l32 : (32 : Int32).toInt = 32 := rfl);  omega) (lv_sub hl [2, 3, 1, 0] rfl) (by rw [if_neg c_101, if_pos c_102, if_pos c_103] at hO; exact hO) hk
        · refine lv_iconst (v := 1) hx hb d7_alarms_70 (by decide) ?_
          refine lv_goto (tgt := 75) hx hb d7_alarms_71 (by decide) ?_
          refine lv_istore_n (lv' := [(2, .int 1), (0, .ref (ad 20 0)), (1, .int y1), (3, .int (nI j3))]) hx hb d7_alarms_75 rfl hl (by decide) rfl (fun ls hl => ?_)
          refine lv_iinc (v := nI (j3 + 1)) (lv' := [(3, .int (nI (j3 + 1))), (2, .int 1), (0, .ref (ad 20 0)), (1, .int y1)]) hx hb d7_alarms_76 hl (k := 3) rfl (nI_1 j3) (by decide) rfl (fun ls hl => ?_)
          refine lv_goto (tgt := 52) hx hb d7_alarms_79 (by decide) ?_
          exact ih 1 (j3 + 1) (by (have aj3 := nI_toInt (n := j3) (by omega)); (have kc_101 := nle_i c_101); (have l32 : (32 : Int32).toInt = 32 := rfl);  omega) (by (have aj3 := nI_toInt (n := j3) (by omega)); (have kc_101 := nle_i c_101); (have l32 : (32 : Int32).toInt = 32 := rfl);  omega) (lv_sub hl [2, 3, 1, 0] rfl) (by rw [if_neg c_101, if_pos c_102, if_neg c_103] at hO; exact hO) hk
set_option maxRecDepth 100000 in
set_option maxHeartbeats 4000000 in
theorem kv7_alarms_87 {p : Program} {l : Launch} {e : Env} {s : State} {m : MethodId} {args : Array Value} {below : List Frame} {meth : Method} {c : Code} {D : va_G} {aC : Nat → ClassId} {ad : Nat → Nat → Nat} {X : Nat → Nat → Prop} {G : sG} {S A : sS} {Q : State → Prop} (C0 : s_C p s m args meth c b7_alarms 5 R7 (some .int) D aC) (hB : s_B D aC ad X (s_N ad X) S A G s.heap s.heap []) (hX : xR X)  (hlo : ∀ i, i < 64 → 0 ≤ (A 36 0 i).toInt ∧ (A 36 0 i).toInt ≤ 6) (y1 : Int32) (y2 : Int32) : ∀ (r : Nat) (z3 : Int32) (j4 : Nat) (hj : j4 ≤ 64) (hr3 : 64 < j4 + r) {ls : Array Slot} (hl : lv_has ls 5 [(0, .ref (ad 20 0)), (1, .int y1), (2, .int y2), (3, .int z3), (4, .int (nI j4))]) {o : Int32} (hO : VV7_alarms_87 S A G y1 y2 r z3 j4 = o) (hk : ∀ ls : Array Slot, lv_has ls 5 [(0, .ref (ad 20 0)), (1, .int y1), (2, .int y2), (3, .int o)] → W p l e (rmk 3) s m args below meth c s.heap [] 0 0 Q (F0 m 125 ls [])), W p l e (rmk 3) s m args below meth c s.heap [] 0 0 Q (F0 m 87 ls []) := by
  obtain ⟨hx, hb, hml, hown, hw, hK, hr, hlocks⟩ := id C0
  intro r
  induction r with
  | zero =>
    intro z3 j4 hj hr3 ls hl o hO hk
    exact absurd hr3 (by omega)
  | succ r ih =>
    intro z3 j4 hj hr3 ls hl o hO hk
    rw [VV7_alarms_87] at hO
    refine lv_iload hx hb d7_alarms_87 (lv_at hl 4 rfl) ?_
    refine lv_bipush (v := 64) hx hb d7_alarms_89 (by decide) ?_
    refine lv_icmp_ge (tgt := 125) hx hb d7_alarms_91 (by decide) (fun c_101 => ?_) (fun c_101 => ?_)
    · rw [if_pos c_101] at hO
      subst hO
      exact hk _ (lv_sub hl [0, 1, 2, 3] rfl)
    · refine lv_iload_n hx hb d7_alarms_94 rfl (lv_at hl 3 rfl) ?_
      refine lv_if_ne (tgt := 113) hx hb d7_alarms_95 (by decide) (fun c_102 => ?_) (fun c_102 => ?_)
      · refine lv_iconst (v := 1) hx hb d7_alarms_113 (by decide) ?_
        refine lv_goto (tgt := 118) hx hb d7_alarms_114 (by decide) ?_
        refine lv_istore_n (lv' := [(3, .int 1), (0, .ref (ad 20 0)), (1, .int y1), (2, .int y2), (4, .int (nI j4))]) hx hb d7_alarms_118 rfl hl (by decide) rfl (fun ls hl => ?_)
        refine lv_iinc (v := nI (j4 + 1)) (lv' := [(4, .int (nI (j4 + 1))), (3, .int 1), (0, .ref (ad 20 0)), (1, .int y1), (2, .int y2)]) hx hb d7_alarms_119 hl (k := 4) rfl (nI_1 j4) (by decide) rfl (fun ls hl => ?_)
        refine lv_goto (tgt := 87) hx hb d7_alarms_122 (by decide) ?_
        exact ih 1 (j4 + 1) (by (have aj4 := nI_toInt (n := j4) (by omega)); (have kc_101 := nle_i c_101); (have l64 : (64 : Int32).toInt = 64 := rfl);  omega) (by (have aj4 := nI_toInt (n := j4) (by omega)); (have kc_101 := nle_i c_101); (have l64 : (64 : Int32).toInt = 64 := rfl);  omega) (lv_sub hl [2, 3, 4, 1, 0] rfl) (by rw [if_neg c_101, if_neg c_102] at hO; exact hO) hk
      · refine lv_aload_n hx hb d7_alarms_98 rfl (lv_at hl 0 rfl) ?_
        refine lv_iload hx hb d7_alarms_99 (lv_at hl 4 rfl) ?_
        refine sr_vp C0 hB (m7_givableOf hX (nI j4) (by (have aj4 := nI_toInt (n := j4) (by omega)); (have kc_101 := nle_i c_101); (have l64 : (64 : Int32).toInt = 64 := rfl);  first | assumption | omega) (by (have aj4 := nI_toInt (n := j4) (by omega)); (have kc_101 := nle_i c_101); (have l64 : (64 : Int32).toInt = 64 := rfl);  first | assumption | omega)) (hX 20 (by decide)) cf_20 ml_7_133 im_7_givableOf se_7_givableOf in_7 cd_7_givableOf hd7_givableOf ⟨⟨rfl, rfl⟩, by decide, by decide⟩ ⟨Nat.zero_le _, Nat.zero_le _⟩ hl.1 rfl (Nat.le_of_ble_eq_true rfl) d7_alarms_101 ?_
        refine lv_aload_n hx hb d7_alarms_104 rfl (lv_at hl 0 rfl) ?_
        refine lv_iload hx hb d7_alarms_105 (lv_at hl 4 rfl) ?_
        refine sr_vp C0 hB (m7_bookOf hX (nI j4) (by (have aj4 := nI_toInt (n := j4) (by omega)); (have kc_101 := nle_i c_101); (have l64 : (64 : Int32).toInt = 64 := rfl);  first | assumption | omega) (by (have aj4 := nI_toInt (n := j4) (by omega)); (have kc_101 := nle_i c_101); (have l64 : (64 : Int32).toInt = 64 := rfl);  first | assumption | omega)) (hX 20 (by decide)) cf_20 ml_7_169 im_7_bookOf se_7_bookOf in_7 cd_7_bookOf hd7_bookOf ⟨⟨rfl, rfl⟩, by decide, by decide⟩ ⟨Nat.zero_le _, Nat.zero_le _⟩ hl.1 rfl (Nat.le_of_ble_eq_true rfl) d7_alarms_107 ?_
        refine lv_icmp_ge (tgt := 117) hx hb d7_alarms_110 (by decide) (fun c_103 => ?_) (fun c_103 => ?_)
        · refine lv_iconst (v := 0) hx hb d7_alarms_117 (by decide) ?_
          refine lv_istore_n (lv' := [(3, .int 0), (0, .ref (ad 20 0)), (1, .int y1), (2, .int y2), (4, .int (nI j4))]) hx hb d7_alarms_118 rfl hl (by decide) rfl (fun ls hl => ?_)
          refine lv_iinc (v := nI (j4 + 1)) (lv' := [(4, .int (nI (j4 + 1))), (3, .int 0), (0, .ref (ad 20 0)), (1, .int y1), (2, .int y2)]) hx hb d7_alarms_119 hl (k := 4) rfl (nI_1 j4) (by decide) rfl (fun ls hl => ?_)
          refine lv_goto (tgt := 87) hx hb d7_alarms_122 (by decide) ?_
          exact ih 0 (j4 + 1) (by (have aj4 := nI_toInt (n := j4) (by omega)); (have kc_101 := nle_i c_101); (have kc_103 := le_i c_103); (have l64 : (64 : Int32).toInt = 64 := rfl);  omega) (by (have aj4 := nI_toInt (n := j4) (by omega)); (have kc_101 := nle_i c_101); (have kc_103 := le_i c_103); (have l64 : (64 : Int32).toInt = 64 := rfl);  omega) (lv_sub hl [2, 3, 4, 1, 0] rfl) (by rw [if_neg c_101, if_pos c_102, if_pos c_103] at hO; exact hO) hk
        · refine lv_iconst (v := 1) hx hb d7_alarms_113 (by decide) ?_
          refine lv_goto (tgt := 118) hx hb d7_alarms_114 (by decide) ?_
          refine lv_istore_n (lv' := [(3, .int 1), (0, .ref (ad 20 0)), (1, .int y1), (2, .int y2), (4, .int (nI j4))]) hx hb d7_alarms_118 rfl hl (by decide) rfl (fun ls hl => ?_)
          refine lv_iinc (v := nI (j4 + 1)) (lv' := [(4, .int (nI (j4 + 1))), (3, .int 1), (0, .ref (ad 20 0)), (1, .int y1), (2, .int y2)]) hx hb d7_alarms_119 hl (k := 4) rfl (nI_1 j4) (by decide) rfl (fun ls hl => ?_)
          refine lv_goto (tgt := 87) hx hb d7_alarms_122 (by decide) ?_
          exact ih 1 (j4 + 1) (by (have aj4 := nI_toInt (n := j4) (by omega)); (have kc_101 := nle_i c_101); (have kc_103 := nle_i c_103); (have l64 : (64 : Int32).toInt = 64 := rfl);  omega) (by (have aj4 := nI_toInt (n := j4) (by omega)); (have kc_101 := nle_i c_101); (have kc_103 := nle_i c_103); (have l64 : (64 : Int32).toInt = 64 := rfl);  omega) (lv_sub hl [2, 3, 4, 1, 0] rfl) (by rw [if_neg c_101, if_pos c_102, if_neg c_103] at hO; exact hO) hk
set_option maxRecDepth 100000 in
set_option maxHeartbeats 4000000 in
theorem k7_alarms_200 {p : Program} {l : Launch} {e : Env} {s : State} {m : MethodId} {args : Array Value} {below : List Frame} {meth : Method} {c : Code} {D : va_G} {aC : Nat → ClassId} {ad : Nat → Nat → Nat} {X : Nat → Nat → Prop} {S A : sS} {G : sG} (C0 : s_C p s m args meth c b7_alarms 5 R7 (some .int) D aC) (hB : s_B D aC ad X (s_N ad X) S A G s.heap s.heap []) (hX : xR X) (z1 : Int32) (z2 : Int32) (z3 : Int32) (z4 : Int32) (t0 : Int32) (t1 : Int32) (hlo : ∀ i, i < 64 → 0 ≤ (A 36 0 i).toInt ∧ (A 36 0 i).toInt ≤ 6) {ls : Array Slot} (hl : lv_has ls 5 [(0, .ref (ad 20 0)), (1, .int z1), (2, .int z2), (3, .int z3), (4, .int z4)]) {o : Int32} (hO : V7_alarms_200 S A G z1 z2 z3 z4 t0 t1 = o) : W p l e (rmk 3) s m args below meth c s.heap [] 0 0 (MQ below (s_Qp o) args s 0 0 (fun _ => False)) (F0 m 200 ls [.int t0, .int t1]) := by
  obtain ⟨hx, hb, hml, hown, hw, hK, hr, hlocks⟩ := id C0
  unfold V7_alarms_200 at hO
  refine lv_iadd hx hb d7_alarms_200 ?_
  exact se_pi C0 (hO) d7_alarms_201
set_option maxRecDepth 100000 in
set_option maxHeartbeats 4000000 in
theorem k7_alarms_189 {p : Program} {l : Launch} {e : Env} {s : State} {m : MethodId} {args : Array Value} {below : List Frame} {meth : Method} {c : Code} {D : va_G} {aC : Nat → ClassId} {ad : Nat → Nat → Nat} {X : Nat → Nat → Prop} {S A : sS} {G : sG} (C0 : s_C p s m args meth c b7_alarms 5 R7 (some .int) D aC) (hB : s_B D aC ad X (s_N ad X) S A G s.heap s.heap []) (hX : xR X) (z1 : Int32) (z2 : Int32) (z3 : Int32) (z4 : Int32) (t0 : Int32) (t1 : Int32) (hlo : ∀ i, i < 64 → 0 ≤ (A 36 0 i).toInt ∧ (A 36 0 i).toInt ≤ 6) {ls : Array Slot} (hl : lv_has ls 5 [(0, .ref (ad 20 0)), (1, .int z1), (2, .int z2), (3, .int z3), (4, .int z4)]) {o : Int32} (hO : V7_alarms_189 S A G z1 z2 z3 z4 t0 t1 = o) : W p l e (rmk 3) s m args below meth c s.heap [] 0 0 (MQ below (s_Qp o) args s 0 0 (fun _ => False)) (F0 m 189 ls [.int t0, .int t1]) := by
  obtain ⟨hx, hb, hml, hown, hw, hK, hr, hlocks⟩ := id C0
  unfold V7_alarms_189 at hO
  refine lv_iadd hx hb d7_alarms_189 ?_
  refine lv_iload_n hx hb d7_alarms_190 rfl (lv_at hl 3 rfl) ?_
  refine lv_if_eq (tgt := 199) hx hb d7_alarms_191 (by decide) (fun c_1 => ?_) (fun c_1 => ?_)
  · refine lv_iconst (v := 0) hx hb d7_alarms_199 (by decide) ?_
    exact k7_alarms_200 C0 hB hX z1 z2 z3 z4 0 (t1 + t0) (by (have kc_1 := congrArg Int32.toInt c_1); (have l0 : (0 : Int32).toInt = 0 := rfl);  first | assumption | omega) (lv_sub hl [0, 1, 2, 3, 4] rfl) (by rw [if_pos c_1] at hO; exact hO)
  · refine lv_bipush (v := 16) hx hb d7_alarms_194 (by decide) ?_
    refine lv_goto (tgt := 200) hx hb d7_alarms_196 (by decide) ?_
    exact k7_alarms_200 C0 hB hX z1 z2 z3 z4 16 (t1 + t0) (by (have kc_1 := ne_i c_1); (have l0 : (0 : Int32).toInt = 0 := rfl);  first | assumption | omega) (lv_sub hl [0, 1, 2, 3, 4] rfl) (by rw [if_neg c_1] at hO; exact hO)
set_option maxRecDepth 100000 in
set_option maxHeartbeats 4000000 in
theorem k7_alarms_174 {p : Program} {l : Launch} {e : Env} {s : State} {m : MethodId} {args : Array Value} {below : List Frame} {meth : Method} {c : Code} {D : va_G} {aC : Nat → ClassId} {ad : Nat → Nat → Nat} {X : Nat → Nat → Prop} {S A : sS} {G : sG} (C0 : s_C p s m args meth c b7_alarms 5 R7 (some .int) D aC) (hB : s_B D aC ad X (s_N ad X) S A G s.heap s.heap []) (hX : xR X) (z1 : Int32) (z2 : Int32) (z3 : Int32) (z4 : Int32) (t0 : Int32) (t1 : Int32) (hlo : ∀ i, i < 64 → 0 ≤ (A 36 0 i).toInt ∧ (A 36 0 i).toInt ≤ 6) {ls : Array Slot} (hl : lv_has ls 5 [(0, .ref (ad 20 0)), (1, .int z1), (2, .int z2), (3, .int z3), (4, .int z4)]) {o : Int32} (hO : V7_alarms_174 S A G z1 z2 z3 z4 t0 t1 = o) : W p l e (rmk 3) s m args below meth c s.heap [] 0 0 (MQ below (s_Qp o) args s 0 0 (fun _ => False)) (F0 m 174 ls [.int t0, .int t1]) := by
  obtain ⟨hx, hb, hml, hown, hw, hK, hr, hlocks⟩ := id C0
  unfold V7_alarms_174 at hO
  refine lv_iadd hx hb d7_alarms_174 ?_
  refine lv_aload_n hx hb d7_alarms_175 rfl (lv_at hl 0 rfl) ?_
  refine sr_vp C0 hB (m7_wholeCopies hX  ) (hX 20 (by decide)) cf_20 ml_7_197 im_7_wholeCopies se_7_wholeCopies in_7 cd_7_wholeCopies hd7_wholeCopies ⟨⟨rfl, rfl⟩, by decide, by decide⟩ ⟨Nat.zero_le _, Nat.zero_le _⟩ hl.1 rfl (Nat.le_of_ble_eq_true rfl) d7_alarms_176 ?_
  refine lv_iconst (v := 2) hx hb d7_alarms_179 (by decide) ?_
  refine lv_icmp_ge (tgt := 188) hx hb d7_alarms_180 (by decide) (fun c_1 => ?_) (fun c_1 => ?_)
  · refine lv_iconst (v := 0) hx hb d7_alarms_188 (by decide) ?_
    exact k7_alarms_189 C0 hB hX z1 z2 z3 z4 0 (t1 + t0) (by (have kc_1 := le_i c_1); (have l2 : (2 : Int32).toInt = 2 := rfl);  first | assumption | omega) (lv_sub hl [0, 1, 2, 3, 4] rfl) (by rw [if_pos c_1] at hO; exact hO)
  · refine lv_bipush (v := 8) hx hb d7_alarms_183 (by decide) ?_
    refine lv_goto (tgt := 189) hx hb d7_alarms_185 (by decide) ?_
    exact k7_alarms_189 C0 hB hX z1 z2 z3 z4 8 (t1 + t0) (by (have kc_1 := nle_i c_1); (have l2 : (2 : Int32).toInt = 2 := rfl);  first | assumption | omega) (lv_sub hl [0, 1, 2, 3, 4] rfl) (by rw [if_neg c_1] at hO; exact hO)
set_option maxRecDepth 100000 in
set_option maxHeartbeats 4000000 in
theorem k7_alarms_164 {p : Program} {l : Launch} {e : Env} {s : State} {m : MethodId} {args : Array Value} {below : List Frame} {meth : Method} {c : Code} {D : va_G} {aC : Nat → ClassId} {ad : Nat → Nat → Nat} {X : Nat → Nat → Prop} {S A : sS} {G : sG} (C0 : s_C p s m args meth c b7_alarms 5 R7 (some .int) D aC) (hB : s_B D aC ad X (s_N ad X) S A G s.heap s.heap []) (hX : xR X) (z1 : Int32) (z2 : Int32) (z3 : Int32) (z4 : Int32) (t0 : Int32) (t1 : Int32) (hlo : ∀ i, i < 64 → 0 ≤ (A 36 0 i).toInt ∧ (A 36 0 i).toInt ≤ 6) {ls : Array Slot} (hl : lv_has ls 5 [(0, .ref (ad 20 0)), (1, .int z1), (2, .int z2), (3, .int z3), (4, .int z4)]) {o : Int32} (hO : V7_alarms_164 S A G z1 z2 z3 z4 t0 t1 = o) : W p l e (rmk 3) s m args below meth c s.heap [] 0 0 (MQ below (s_Qp o) args s 0 0 (fun _ => False)) (F0 m 164 ls [.int t0, .int t1]) := by
  obtain ⟨hx, hb, hml, hown, hw, hK, hr, hlocks⟩ := id C0
  unfold V7_alarms_164 at hO
  refine lv_iadd hx hb d7_alarms_164 ?_
  refine lv_iload_n hx hb d7_alarms_165 rfl (lv_at hl 2 rfl) ?_
  refine lv_if_eq (tgt := 173) hx hb d7_alarms_166 (by decide) (fun c_1 => ?_) (fun c_1 => ?_)
  · refine lv_iconst (v := 0) hx hb d7_alarms_173 (by decide) ?_
    exact k7_alarms_174 C0 hB hX z1 z2 z3 z4 0 (t1 + t0) (by (have kc_1 := congrArg Int32.toInt c_1); (have l0 : (0 : Int32).toInt = 0 := rfl);  first | assumption | omega) (lv_sub hl [0, 1, 2, 3, 4] rfl) (by rw [if_pos c_1] at hO; exact hO)
  · refine lv_iconst (v := 4) hx hb d7_alarms_169 (by decide) ?_
    refine lv_goto (tgt := 174) hx hb d7_alarms_170 (by decide) ?_
    exact k7_alarms_174 C0 hB hX z1 z2 z3 z4 4 (t1 + t0) (by (have kc_1 := ne_i c_1); (have l0 : (0 : Int32).toInt = 0 := rfl);  first | assumption | omega) (lv_sub hl [0, 1, 2, 3, 4] rfl) (by rw [if_neg c_1] at hO; exact hO)
set_option maxRecDepth 100000 in
set_option maxHeartbeats 4000000 in
theorem k7_alarms_151 {p : Program} {l : Launch} {e : Env} {s : State} {m : MethodId} {args : Array Value} {below : List Frame} {meth : Method} {c : Code} {D : va_G} {aC : Nat → ClassId} {ad : Nat → Nat → Nat} {X : Nat → Nat → Prop} {S A : sS} {G : sG} (C0 : s_C p s m args meth c b7_alarms 5 R7 (some .int) D aC) (hB : s_B D aC ad X (s_N ad X) S A G s.heap s.heap []) (hX : xR X) (z1 : Int32) (z2 : Int32) (z3 : Int32) (t0 : Int32) (hlo : ∀ i, i < 64 → 0 ≤ (A 36 0 i).toInt ∧ (A 36 0 i).toInt ≤ 6) {ls : Array Slot} (hl : lv_has ls 5 [(0, .ref (ad 20 0)), (1, .int z1), (2, .int z2), (3, .int z3)]) {o : Int32} (hO : V7_alarms_151 S A G z1 z2 z3 t0 = o) : W p l e (rmk 3) s m args below meth c s.heap [] 0 0 (MQ below (s_Qp o) args s 0 0 (fun _ => False)) (F0 m 151 ls [.int t0]) := by
  obtain ⟨hx, hb, hml, hown, hw, hK, hr, hlocks⟩ := id C0
  unfold V7_alarms_151 at hO
  refine lv_istore (lv' := [(4, .int t0), (0, .ref (ad 20 0)), (1, .int z1), (2, .int z2), (3, .int z3)]) hx hb d7_alarms_151 hl (by decide) rfl (fun ls hl => ?_)
  refine lv_iload hx hb d7_alarms_153 (lv_at hl 0 rfl) ?_
  refine lv_iload_n hx hb d7_alarms_155 rfl (lv_at hl 2 rfl) ?_
  refine lv_if_eq (tgt := 163) hx hb d7_alarms_156 (by decide) (fun c_1 => ?_) (fun c_1 => ?_)
  · refine lv_iconst (v := 0) hx hb d7_alarms_163 (by decide) ?_
    exact k7_alarms_164 C0 hB hX z1 z2 z3 t0 0 t0 (by (have kc_1 := congrArg Int32.toInt c_1); (have l0 : (0 : Int32).toInt = 0 := rfl);  first | assumption | omega) (lv_sub hl [1, 2, 3, 4, 0] rfl) (by rw [if_pos c_1] at hO; exact hO)
  · refine lv_iconst (v := 2) hx hb d7_alarms_159 (by decide) ?_
    refine lv_goto (tgt := 164) hx hb d7_alarms_160 (by decide) ?_
    exact k7_alarms_164 C0 hB hX z1 z2 z3 t0 2 t0 (by (have kc_1 := ne_i c_1); (have l0 : (0 : Int32).toInt = 0 := rfl);  first | assumption | omega) (lv_sub hl [1, 2, 3, 4, 0] rfl) (by rw [if_neg c_1] at hO; exact hO)
set_option maxRecDepth 100000 in
set_option maxHeartbeats 4000000 in
theorem k7_alarms_0 {p : Program} {l : Launch} {e : Env} {s : State} {m : MethodId} {args : Array Value} {below : List Frame} {meth : Method} {c : Code} {D : va_G} {aC : Nat → ClassId} {ad : Nat → Nat → Nat} {X : Nat → Nat → Prop} {S A : sS} {G : sG} (C0 : s_C p s m args meth c b7_alarms 5 R7 (some .int) D aC) (hB : s_B D aC ad X (s_N ad X) S A G s.heap s.heap []) (hX : xR X)  (hlo : ∀ i, i < 64 → 0 ≤ (A 36 0 i).toInt ∧ (A 36 0 i).toInt ≤ 6) {ls : Array Slot} (hl : lv_has ls 5 [(0, .ref (ad 20 0))]) {o : Int32} (hO : V7_alarms S A G  = o) : W p l e (rmk 3) s m args below meth c s.heap [] 0 0 (MQ below (s_Qp o) args s 0 0 (fun _ => False)) (F0 m 0 ls []) := by
  obtain ⟨hx, hb, hml, hown, hw, hK, hr, hlocks⟩ := id C0
  unfold V7_alarms at hO
  refine lv_iconst (v := 0) hx hb d7_alarms_0 (by decide) ?_
  refine lv_istore_n (lv' := [(1, .int 0), (0, .ref (ad 20 0))]) hx hb d7_alarms_1 rfl hl (by decide) rfl (fun ls hl => ?_)
  refine lv_iconst (v := 0) hx hb d7_alarms_2 (by decide) ?_
  refine lv_istore_n (lv' := [(2, .int 0), (1, .int 0), (0, .ref (ad 20 0))]) hx hb d7_alarms_3 rfl hl (by decide) rfl (fun ls hl => ?_)
  refine kv7_alarms_4 C0 hB hX  hlo  17 0 0 (by  omega) (by  omega) (lv_sub hl [2, 1, 0] rfl) rfl (fun ls hl => ?_)
  refine lv_iconst (v := 0) hx hb d7_alarms_48 (by decide) ?_
  refine lv_istore_n (lv' := [(2, .int 0), (0, .ref (ad 20 0)), (1, .int (VV7_alarms_4 S A G   17 0 0))]) hx hb d7_alarms_49 rfl hl (by decide) rfl (fun ls hl => ?_)
  refine lv_iconst (v := 0) hx hb d7_alarms_50 (by decide) ?_
  refine lv_istore_n (lv' := [(3, .int 0), (2, .int 0), (0, .ref (ad 20 0)), (1, .int (VV7_alarms_4 S A G   17 0 0))]) hx hb d7_alarms_51 rfl hl (by decide) rfl (fun ls hl => ?_)
  refine kv7_alarms_52 C0 hB hX  hlo (VV7_alarms_4 S A G   17 0 0) 33 0 0 (by  omega) (by  omega) (lv_sub hl [2, 3, 1, 0] rfl) rfl (fun ls hl => ?_)
  refine lv_iconst (v := 0) hx hb d7_alarms_82 (by decide) ?_
  refine lv_istore_n (lv' := [(3, .int 0), (0, .ref (ad 20 0)), (1, .int (VV7_alarms_4 S A G   17 0 0)), (2, .int (VV7_alarms_52 S A G  (VV7_alarms_4 S A G   17 0 0) 33 0 0))]) hx hb d7_alarms_83 rfl hl (by decide) rfl (fun ls hl => ?_)
  refine lv_iconst (v := 0) hx hb d7_alarms_84 (by decide) ?_
  refine lv_istore (lv' := [(4, .int 0), (3, .int 0), (0, .ref (ad 20 0)), (1, .int (VV7_alarms_4 S A G   17 0 0)), (2, .int (VV7_alarms_52 S A G  (VV7_alarms_4 S A G   17 0 0) 33 0 0))]) hx hb d7_alarms_85 hl (by decide) rfl (fun ls hl => ?_)
  refine kv7_alarms_87 C0 hB hX  hlo (VV7_alarms_4 S A G   17 0 0) (VV7_alarms_52 S A G  (VV7_alarms_4 S A G   17 0 0) 33 0 0) 65 0 0 (by  omega) (by  omega) (lv_sub hl [2, 3, 4, 1, 0] rfl) rfl (fun ls hl => ?_)
  refine lv_aload_n hx hb d7_alarms_125 rfl (lv_at hl 0 rfl) ?_
  refine sr_get (v := .int (S 20 0 27)) hx hb hw hown hK hB 27 (hX 20 (by decide)) cf_20 us7 (by decide) fl_7_81 (rfl) d7_alarms_126 ?_
  refine lv_if_lt (tgt := 150) hx hb d7_alarms_129 (by decide) (fun c_1 => ?_) (fun c_1 => ?_)
  · refine lv_iconst (v := 0) hx hb d7_alarms_150 (by decide) ?_
    exact k7_alarms_151 C0 hB hX (VV7_alarms_4 S A G   17 0 0) (VV7_alarms_52 S A G  (VV7_alarms_4 S A G   17 0 0) 33 0 0) (VV7_alarms_87 S A G  (VV7_alarms_4 S A G   17 0 0) (VV7_alarms_52 S A G  (VV7_alarms_4 S A G   17 0 0) 33 0 0) 65 0 0) 0 (by (have kc_1 := lt_i c_1); (have l0 : (0 : Int32).toInt = 0 := rfl); (have l20 : (20 : Int32).toInt = 20 := rfl); (have l27 : (27 : Int32).toInt = 27 := rfl);  first | assumption | omega) (lv_sub hl [0, 1, 2, 3] rfl) (by rw [if_pos c_1] at hO; exact hO)
  · refine lv_aload_n hx hb d7_alarms_132 rfl (lv_at hl 0 rfl) ?_
    refine sr_get (v := .int (S 20 0 0)) hx hb hw hown hK hB 0 (hX 20 (by decide)) cf_20 us7 (by decide) fl_7_100 (rfl) d7_alarms_133 ?_
    refine lv_aload_n hx hb d7_alarms_136 rfl (lv_at hl 0 rfl) ?_
    refine sr_get (v := .int (S 20 0 30)) hx hb hw hown hK hB 30 (hX 20 (by decide)) cf_20 us7 (by decide) fl_7_156 (rfl) d7_alarms_137 ?_
    refine lv_isub hx hb d7_alarms_140 ?_
    refine lv_bipush (v := 40) hx hb d7_alarms_141 (by decide) ?_
    refine lv_icmp_lt (tgt := 150) hx hb d7_alarms_143 (by decide) (fun c_2 => ?_) (fun c_2 => ?_)
    · refine lv_iconst (v := 0) hx hb d7_alarms_150 (by decide) ?_
      exact k7_alarms_151 C0 hB hX (VV7_alarms_4 S A G   17 0 0) (VV7_alarms_52 S A G  (VV7_alarms_4 S A G   17 0 0) 33 0 0) (VV7_alarms_87 S A G  (VV7_alarms_4 S A G   17 0 0) (VV7_alarms_52 S A G  (VV7_alarms_4 S A G   17 0 0) 33 0 0) 65 0 0) 0 (by (have kc_1 := nlt_i c_1); (have kc_2 := lt_i c_2); (have l0 : (0 : Int32).toInt = 0 := rfl); (have l20 : (20 : Int32).toInt = 20 := rfl); (have l27 : (27 : Int32).toInt = 27 := rfl); (have l30 : (30 : Int32).toInt = 30 := rfl); (have l40 : (40 : Int32).toInt = 40 := rfl);  first | assumption | omega) (lv_sub hl [0, 1, 2, 3] rfl) (by rw [if_neg c_1, if_pos c_2] at hO; exact hO)
    · refine lv_iconst (v := 1) hx hb d7_alarms_146 (by decide) ?_
      refine lv_goto (tgt := 151) hx hb d7_alarms_147 (by decide) ?_
      exact k7_alarms_151 C0 hB hX (VV7_alarms_4 S A G   17 0 0) (VV7_alarms_52 S A G  (VV7_alarms_4 S A G   17 0 0) 33 0 0) (VV7_alarms_87 S A G  (VV7_alarms_4 S A G   17 0 0) (VV7_alarms_52 S A G  (VV7_alarms_4 S A G   17 0 0) 33 0 0) 65 0 0) 1 (by (have kc_1 := nlt_i c_1); (have kc_2 := nlt_i c_2); (have l0 : (0 : Int32).toInt = 0 := rfl); (have l20 : (20 : Int32).toInt = 20 := rfl); (have l27 : (27 : Int32).toInt = 27 := rfl); (have l30 : (30 : Int32).toInt = 30 := rfl); (have l40 : (40 : Int32).toInt = 40 := rfl);  first | assumption | omega) (lv_sub hl [0, 1, 2, 3] rfl) (by rw [if_neg c_1, if_neg c_2] at hO; exact hO)
theorem hd7_alarms : y7_alarms.cls = R7 ∧ y7_alarms.cls ≠ "java/lang/invoke/MethodHandle" ∧ y7_alarms.cls ≠ "java/lang/invoke/VarHandle" ∧ (parseMethodDescriptor y7_alarms.desc).map (fun d => d.parameters.length) = some 0 := ⟨rfl, by decide, by decide, by decide +kernel⟩
theorem m7_alarms {l : Launch} {D : va_G} {aC : Nat → ClassId} {ad : Nat → Nat → Nat} {X : Nat → Nat → Prop} {S A : sS} {G : sG} (hX : xR X)  (hlo : ∀ i, i < 64 → 0 ≤ (A 36 0 i).toInt ∧ (A 36 0 i).toInt ≤ 6) : Met l y7_alarms (.code y7_alarms b7_alarms 5 (some .int) :: wall) (rmk 3) (s_Pc [.ref (ad 20 0)] D aC ad X S A G) (s_Qp (V7_alarms S A G )) 0 0 (fun _ => False) :=
  s_met (by decide) rfl (Nat.le_of_ble_eq_true rfl) (fun p e s m args below meth c C0 hB ls hl => k7_alarms_0 C0 hB hX  hlo hl rfl)

def VV7_audit_25 (S A : sS) (G : sG) (y1 : Int32) (y2 : Int32) : Nat → Int32 → Nat → Int32
  | 0, _, _ => 0
  | r + 1, z3, j4 => if S 20 0 34 ≤ nI j4 then z3 else if A 56 0 (6 * (nI j4).toNatClampNeg + 3) = y2 then if A 56 0 (6 * (nI j4).toNatClampNeg) = 1 then VV7_audit_25 S A G  y1 y2 r (z3 + (A 56 0 (6 * (nI j4).toNatClampNeg + 4))) (j4 + 1) else if A 56 0 (6 * (nI j4).toNatClampNeg) = 3 then VV7_audit_25 S A G  y1 y2 r (z3 + (A 56 0 (6 * (nI j4).toNatClampNeg + 4))) (j4 + 1) else if A 56 0 (6 * (nI j4).toNatClampNeg) = 2 then VV7_audit_25 S A G  y1 y2 r (z3 + (-(A 56 0 (6 * (nI j4).toNatClampNeg + 4)))) (j4 + 1) else if A 56 0 (6 * (nI j4).toNatClampNeg) = 4 then VV7_audit_25 S A G  y1 y2 r (z3 + (-(A 56 0 (6 * (nI j4).toNatClampNeg + 4)))) (j4 + 1) else VV7_audit_25 S A G  y1 y2 r (z3 + 0) (j4 + 1) else VV7_audit_25 S A G  y1 y2 r (z3 + 0) (j4 + 1)
def V7_audit_14 (G : sG)  : Nat → sS → sS → Int32 → Nat → Int32
  | 0, S, A, _, _ => 0
  | r + 1, S, A, z1, j2 => if 64 ≤ nI j2 then z1 else if VV7_audit_25 S A G  z1 (nI j2) 301 0 0 = V7_bookOf S A G (nI j2) then V7_audit_14 G  r S A (z1 + 0) (j2 + 1) else V7_audit_14 G  r S A (z1 + 1) (j2 + 1)
def V7_audit (S A : sS) (G : sG)  : Int32 := if V7_wholeCopies S A G  = 0 then (-8) else V7_audit_14 G  65 S A 0 0
set_option maxRecDepth 100000 in
set_option maxHeartbeats 4000000 in
theorem kv7_audit_25 {p : Program} {l : Launch} {e : Env} {s : State} {m : MethodId} {args : Array Value} {below : List Frame} {meth : Method} {c : Code} {D : va_G} {aC : Nat → ClassId} {ad : Nat → Nat → Nat} {X : Nat → Nat → Prop} {G : sG} {S A : sS} {Q : State → Prop} (C0 : s_C p s m args meth c b7_audit 7 R7 (some .int) D aC) (hB : s_B D aC ad X (s_N ad X) S A G s.heap s.heap []) (hX : xR X)  (hlo : ∀ i, i < 64 → 0 ≤ (A 36 0 i).toInt ∧ (A 36 0 i).toInt ≤ 6) (hen : 0 ≤ (S 20 0 34).toInt ∧ (S 20 0 34).toInt ≤ 300) (y1 : Int32) (y2 : Int32) : ∀ (r : Nat) (z3 : Int32) (j4 : Nat) (hj4 : j4 ≤ 300) (hr4 : 300 < j4 + r) {ls : Array Slot} (hl : lv_has ls 7 [(0, .ref (ad 20 0)), (1, .int y1), (2, .int y2), (3, .int z3), (4, .int (nI j4))]) {o : Int32} (hO : VV7_audit_25 S A G y1 y2 r z3 j4 = o) (hk : ∀ ls : Array Slot, lv_has ls 7 [(0, .ref (ad 20 0)), (1, .int y1), (2, .int y2), (3, .int o)] → W p l e (rmk 1) s m args below meth c s.heap [] 0 0 Q (F0 m 143 ls [])), W p l e (rmk 1) s m args below meth c s.heap [] 0 0 Q (F0 m 25 ls []) := by
  obtain ⟨hx, hb, hml, hown, hw, hK, hr, hlocks⟩ := id C0
  intro r
  induction r with
  | zero =>
    intro z3 j4 hj4 hr4 ls hl o hO hk
    exact absurd hr4 (by omega)
  | succ r ih =>
    intro z3 j4 hj4 hr4 ls hl o hO hk
    rw [VV7_audit_25] at hO
    refine lv_iload hx hb d7_audit_25 (lv_at hl 4 rfl) ?_
    refine lv_aload_n hx hb d7_audit_27 rfl (lv_at hl 0 rfl) ?_
    refine sr_get (v := .int (S 20 0 34)) hx hb hw hown hK hB 34 (hX 20 (by decide)) cf_20 us7 (by decide) fl_7_130 (rfl) d7_audit_28 ?_
    refine lv_icmp_ge (tgt := 143) hx hb d7_audit_31 (by decide) (fun c_101 => ?_) (fun c_101 => ?_)
    · rw [if_pos c_101] at hO
      subst hO
      exact hk _ (lv_sub hl [0, 1, 2, 3] rfl)
    · refine lv_aload_n hx hb d7_audit_34 rfl (lv_at hl 0 rfl) ?_
      refine sr_get (v := .ref (ad 56 0)) hx hb hw hown hK hB 35 (hX 20 (by decide)) cf_20 us7 (by decide) fl_7_84 (rfl) d7_audit_35 ?_
      refine lv_bipush (v := 6) hx hb d7_audit_38 (by decide) ?_
      refine lv_iload hx hb d7_audit_40 (lv_at hl 4 rfl) ?_
      refine lv_imul hx hb d7_audit_42 ?_
      refine sr_iald (v := A 56 0 (6 * (nI j4).toNatClampNeg)) hx hb hK hB (hX 56 (by decide)) rfl rfl (by (have aj4 := nI_toInt (n := j4) (by omega)); (have kc_101 := nle_i c_101); (have l0 : (0 : Int32).toInt = 0 := rfl); (have l20 : (20 : Int32).toInt = 20 := rfl); (have l34 : (34 : Int32).toInt = 34 := rfl);  exact ix6z_in (x := (nI j4)) (by omega) (by omega) (show _ < ((1800 : Nat) : Int) by omega)) d7_audit_43 (by (have aj4 := nI_toInt (n := j4) (by omega)); (have kc_101 := nle_i c_101); (have l0 : (0 : Int32).toInt = 0 := rfl); (have l20 : (20 : Int32).toInt = 20 := rfl); (have l34 : (34 : Int32).toInt = 34 := rfl);  exact Eq.trans (congrArg (fun q => A 56 0 q) (ix6z (x := (nI j4)) (by omega) (by omega))) rfl) ?_
      refine lv_istore (lv' := [(5, .int (A 56 0 (6 * (nI j4).toNatClampNeg))), (0, .ref (ad 20 0)), (1, .int y1), (2, .int y2), (3, .int z3), (4, .int (nI j4))]) hx hb d7_audit_44 hl (by decide) rfl (fun ls hl => ?_)
      refine lv_aload_n hx hb d7_audit_46 rfl (lv_at hl 1 rfl) ?_
      refine sr_get (v := .ref (ad 56 0)) hx hb hw hown hK hB 35 (hX 20 (by decide)) cf_20 us7 (by decide) fl_7_84 (rfl) d7_audit_47 ?_
      refine lv_bipush (v := 6) hx hb d7_audit_50 (by decide) ?_
      refine lv_iload hx hb d7_audit_52 (lv_at hl 5 rfl) ?_
      refine lv_imul hx hb d7_audit_54 ?_
      refine lv_iconst (v := 3) hx hb d7_audit_55 (by decide) ?_
      refine lv_iadd hx hb d7_audit_56 ?_
      refine sr_iald (v := A 56 0 (6 * (nI j4).toNatClampNeg + 3)) hx hb hK hB (hX 56 (by decide)) rfl rfl (by (have aj4 := nI_toInt (n := j4) (by omega)); (have kc_101 := nle_i c_101); (have l0 : (0 : Int32).toInt = 0 := rfl); (have l20 : (20 : Int32).toInt = 20 := rfl); (have l34 : (34 : Int32).toInt = 34 := rfl);  exact ix6_in (x := (nI j4)) (j := 3) (by omega) (by omega) (by omega) (show _ < ((1800 : Nat) : Int) by omega)) d7_audit_57 (by (have aj4 := nI_toInt (n := j4) (by omega)); (have kc_101 := nle_i c_101); (have l0 : (0 : Int32).toInt = 0 := rfl); (have l20 : (20 : Int32).toInt = 20 := rfl); (have l34 : (34 : Int32).toInt = 34 := rfl);  exact Eq.trans (congrArg (fun q => A 56 0 q) (ix6 (x := (nI j4)) (j := 3) (by omega) (by omega) (by omega))) rfl) ?_
      refine lv_iload_n hx hb d7_audit_58 rfl (lv_at hl 3 rfl) ?_
      refine lv_icmp_ne (tgt := 66) hx hb d7_audit_59 (by decide) (fun c_102 => ?_) (fun c_102 => ?_)
      · refine lv_iconst (v := 0) hx hb d7_audit_66 (by decide) ?_
        refine lv_istore (lv' := [(6, .int 0), (5, .int (A 56 0 (6 * (nI j4).toNatClampNeg))), (0, .ref (ad 20 0)), (1, .int y1), (2, .int y2), (3, .int z3), (4, .int (nI j4))]) hx hb d7_audit_67 hl (by decide) rfl (fun ls hl => ?_)
        refine lv_iload_n hx hb d7_audit_69 rfl (lv_at hl 5 rfl) ?_
        refine lv_iload hx hb d7_audit_70 (lv_at hl 0 rfl) ?_
        refine lv_if_ne (tgt := 79) hx hb d7_audit_72 (by decide) (fun c => absurd (by decide) c) (fun _ => ?_)
        refine lv_iconst (v := 0) hx hb d7_audit_75 (by decide) ?_
        refine lv_goto (tgt := 135) hx hb d7_audit_76 (by decide) ?_
        refine lv_iadd hx hb d7_audit_135 ?_
        refine lv_istore_n (lv' := [(3, .int (z3 + 0)), (6, .int 0), (5, .int (A 56 0 (6 * (nI j4).toNatClampNeg))), (0, .ref (ad 20 0)), (1, .int y1), (2, .int y2), (4, .int (nI j4))]) hx hb d7_audit_136 rfl hl (by decide) rfl (fun ls hl => ?_)
        refine lv_iinc (v := nI (j4 + 1)) (lv' := [(4, .int (nI (j4 + 1))), (3, .int (z3 + 0)), (6, .int 0), (5, .int (A 56 0 (6 * (nI j4).toNatClampNeg))), (0, .ref (ad 20 0)), (1, .int y1), (2, .int y2)]) hx hb d7_audit_137 hl (k := 6) rfl (nI_1 j4) (by decide) rfl (fun ls hl => ?_)
        refine lv_goto (tgt := 25) hx hb d7_audit_140 (by decide) ?_
        exact ih (z3 + 0) (j4 + 1) (by (have aj4 := nI_toInt (n := j4) (by omega)); (have kc_101 := nle_i c_101); (have l0 : (0 : Int32).toInt = 0 := rfl); (have l20 : (20 : Int32).toInt = 20 := rfl); (have l34 : (34 : Int32).toInt = 34 := rfl);  omega) (by (have aj4 := nI_toInt (n := j4) (by omega)); (have kc_101 := nle_i c_101); (have l0 : (0 : Int32).toInt = 0 := rfl); (have l20 : (20 : Int32).toInt = 20 := rfl); (have l34 : (34 : Int32).toInt = 34 := rfl);  omega) (lv_sub hl [4, 5, 6, 1, 0] rfl) (by rw [if_neg c_101, if_neg c_102] at hO; exact hO) hk
      · refine lv_iconst (v := 1) hx hb d7_audit_62 (by decide) ?_
        refine lv_goto (tgt := 67) hx hb d7_audit_63 (by decide) ?_
        refine lv_istore (lv' := [(6, .int 1), (5, .int (A 56 0 (6 * (nI j4).toNatClampNeg))), (0, .ref (ad 20 0)), (1, .int y1), (2, .int y2), (3, .int z3), (4, .int (nI j4))]) hx hb d7_audit_67 hl (by decide) rfl (fun ls hl => ?_)
        refine lv_iload_n hx hb d7_audit_69 rfl (lv_at hl 5 rfl) ?_
        refine lv_iload hx hb d7_audit_70 (lv_at hl 0 rfl) ?_
        refine lv_if_ne (tgt := 79) hx hb d7_audit_72 (by decide) (fun _ => ?_) (fun c => absurd c (by decide))
        refine lv_iload hx hb d7_audit_79 (lv_at hl 1 rfl) ?_
        refine lv_iconst (v := 1) hx hb d7_audit_81 (by decide) ?_
        refine lv_icmp_eq (tgt := 91) hx hb d7_audit_82 (by decide) (fun c_105 => ?_) (fun c_105 => ?_)
        · refine lv_aload_n hx hb d7_audit_91 rfl (lv_at hl 2 rfl) ?_
          refine sr_get (v := .ref (ad 56 0)) hx hb hw hown hK hB 35 (hX 20 (by decide)) cf_20 us7 (by decide) fl_7_84 (rfl) d7_audit_92 ?_
          refine lv_bipush (v := 6) hx hb d7_audit_95 (by decide) ?_
          refine lv_iload hx hb d7_audit_97 (lv_at hl 6 rfl) ?_
          refine lv_imul hx hb d7_audit_99 ?_
          refine lv_iconst (v := 4) hx hb d7_audit_100 (by decide) ?_
          refine lv_iadd hx hb d7_audit_101 ?_
          refine sr_iald (v := A 56 0 (6 * (nI j4).toNatClampNeg + 4)) hx hb hK hB (hX 56 (by decide)) rfl rfl (by (have aj4 := nI_toInt (n := j4) (by omega)); (have kc_101 := nle_i c_101); (have l0 : (0 : Int32).toInt = 0 := rfl); (have l20 : (20 : Int32).toInt = 20 := rfl); (have l34 : (34 : Int32).toInt = 34 := rfl);  exact ix6_in (x := (nI j4)) (j := 4) (by omega) (by omega) (by omega) (show _ < ((1800 : Nat) : Int) by omega)) d7_audit_102 (by (have aj4 := nI_toInt (n := j4) (by omega)); (have kc_101 := nle_i c_101); (have l0 : (0 : Int32).toInt = 0 := rfl); (have l20 : (20 : Int32).toInt = 20 := rfl); (have l34 : (34 : Int32).toInt = 34 := rfl);  exact Eq.trans (congrArg (fun q => A 56 0 q) (ix6 (x := (nI j4)) (j := 4) (by omega) (by omega) (by omega))) rfl) ?_
          refine lv_goto (tgt := 135) hx hb d7_audit_103 (by decide) ?_
          refine lv_iadd hx hb d7_audit_135 ?_
          refine lv_istore_n (lv' := [(3, .int (z3 + (A 56 0 (6 * (nI j4).toNatClampNeg + 4)))), (6, .int 1), (5, .int (A 56 0 (6 * (nI j4).toNatClampNeg))), (0, .ref (ad 20 0)), (1, .int y1), (2, .int y2), (4, .int (nI j4))]) hx hb d7_audit_136 rfl hl (by decide) rfl (fun ls hl => ?_)
          refine lv_iinc (v := nI (j4 + 1)) (lv' := [(4, .int (nI (j4 + 1))), (3, .int (z3 + (A 56 0 (6 * (nI j4).toNatClampNeg + 4)))), (6, .int 1), (5, .int (A 56 0 (6 * (nI j4).toNatClampNeg))), (0, .ref (ad 20 0)), (1, .int y1), (2, .int y2)]) hx hb d7_audit_137 hl (k := 6) rfl (nI_1 j4) (by decide) rfl (fun ls hl => ?_)
          refine lv_goto (tgt := 25) hx hb d7_audit_140 (by decide) ?_
          exact ih (z3 + (A 56 0 (6 * (nI j4).toNatClampNeg + 4))) (j4 + 1) (by (have aj4 := nI_toInt (n := j4) (by omega)); (have kc_101 := nle_i c_101); (have l0 : (0 : Int32).toInt = 0 := rfl); (have l20 : (20 : Int32).toInt = 20 := rfl); (have l34 : (34 : Int32).toInt = 34 := rfl);  omega) (by (have aj4 := nI_toInt (n := j4) (by omega)); (have kc_101 := nle_i c_101); (have l0 : (0 : Int32).toInt = 0 := rfl); (have l20 : (20 : Int32).toInt = 20 := rfl); (have l34 : (34 : Int32).toInt = 34 := rfl);  omega) (lv_sub hl [4, 5, 6, 1, 0] rfl) (by rw [if_neg c_101, if_pos c_102, if_pos c_105] at hO; exact hO) hk
        · refine lv_iload hx hb d7_audit_85 (lv_at hl 1 rfl) ?_
          refine lv_iconst (v := 3) hx hb d7_audit_87 (by decide) ?_
          refine lv_icmp_ne (tgt := 106) hx hb d7_audit_88 (by decide) (fun c_106 => ?_) (fun c_106 => ?_)
          · refine lv_iload hx hb d7_audit_106 (lv_at hl 1 rfl) ?_
            refine lv_iconst (v := 2) hx hb d7_audit_108 (by decide) ?_
            refine lv_icmp_eq (tgt := 118) hx hb d7_audit_109 (by decide) (fun c_107 => ?_) (fun c_107 => ?_)
            · refine lv_aload_n hx hb d7_audit_118 rfl (lv_at hl 2 rfl) ?_
              refine sr_get (v := .ref (ad 56 0)) hx hb hw hown hK hB 35 (hX 20 (by decide)) cf_20 us7 (by decide) fl_7_84 (rfl) d7_audit_119 ?_
              refine lv_bipush (v := 6) hx hb d7_audit_122 (by decide) ?_
              refine lv_iload hx hb d7_audit_124 (lv_at hl 6 rfl) ?_
              refine lv_imul hx hb d7_audit_126 ?_
              refine lv_iconst (v := 4) hx hb d7_audit_127 (by decide) ?_
              refine lv_iadd hx hb d7_audit_128 ?_
              refine sr_iald (v := A 56 0 (6 * (nI j4).toNatClampNeg + 4)) hx hb hK hB (hX 56 (by decide)) rfl rfl (by (have aj4 := nI_toInt (n := j4) (by omega)); (have kc_101 := nle_i c_101); (have l0 : (0 : Int32).toInt = 0 := rfl); (have l20 : (20 : Int32).toInt = 20 := rfl); (have l34 : (34 : Int32).toInt = 34 := rfl);  exact ix6_in (x := (nI j4)) (j := 4) (by omega) (by omega) (by omega) (show _ < ((1800 : Nat) : Int) by omega)) d7_audit_129 (by (have aj4 := nI_toInt (n := j4) (by omega)); (have kc_101 := nle_i c_101); (have l0 : (0 : Int32).toInt = 0 := rfl); (have l20 : (20 : Int32).toInt = 20 := rfl); (have l34 : (34 : Int32).toInt = 34 := rfl);  exact Eq.trans (congrArg (fun q => A 56 0 q) (ix6 (x := (nI j4)) (j := 4) (by omega) (by omega) (by omega))) rfl) ?_
              refine lv_ineg hx hb d7_audit_130 ?_
              refine lv_goto (tgt := 135) hx hb d7_audit_131 (by decide) ?_
              refine lv_iadd hx hb d7_audit_135 ?_
              refine lv_istore_n (lv' := [(3, .int (z3 + (-(A 56 0 (6 * (nI j4).toNatClampNeg + 4))))), (6, .int 1), (5, .int (A 56 0 (6 * (nI j4).toNatClampNeg))), (0, .ref (ad 20 0)), (1, .int y1), (2, .int y2), (4, .int (nI j4))]) hx hb d7_audit_136 rfl hl (by decide) rfl (fun ls hl => ?_)
              refine lv_iinc (v := nI (j4 + 1)) (lv' := [(4, .int (nI (j4 + 1))), (3, .int (z3 + (-(A 56 0 (6 * (nI j4).toNatClampNeg + 4))))), (6, .int 1), (5, .int (A 56 0 (6 * (nI j4).toNatClampNeg))), (0, .ref (ad 20 0)), (1, .int y1), (2, .int y2)]) hx hb d7_audit_137 hl (k := 6) rfl (nI_1 j4) (by decide) rfl (fun ls hl => ?_)
              refine lv_goto (tgt := 25) hx hb d7_audit_140 (by decide) ?_
              exact ih (z3 + (-(A 56 0 (6 * (nI j4).toNatClampNeg + 4)))) (j4 + 1) (by (have aj4 := nI_toInt (n := j4) (by omega)); (have kc_101 := nle_i c_101); (have l0 : (0 : Int32).toInt = 0 := rfl); (have l20 : (20 : Int32).toInt = 20 := rfl); (have l34 : (34 : Int32).toInt = 34 := rfl);  omega) (by (have aj4 := nI_toInt (n := j4) (by omega)); (have kc_101 := nle_i c_101); (have l0 : (0 : Int32).toInt = 0 := rfl); (have l20 : (20 : Int32).toInt = 20 := rfl); (have l34 : (34 : Int32).toInt = 34 := rfl);  omega) (lv_sub hl [4, 5, 6, 1, 0] rfl) (by rw [if_neg c_101, if_pos c_102, if_neg c_105, if_neg c_106, if_pos c_107] at hO; exact hO) hk
            · refine lv_iload hx hb d7_audit_112 (lv_at hl 1 rfl) ?_
              refine lv_iconst (v := 4) hx hb d7_audit_114 (by decide) ?_
              refine lv_icmp_ne (tgt := 134) hx hb d7_audit_115 (by decide) (fun c_108 => ?_) (fun c_108 => ?_)
              · refine lv_iconst (v := 0) hx hb d7_audit_134 (by decide) ?_
                refine lv_iadd hx hb d7_audit_135 ?_
                refine lv_istore_n (lv' := [(3, .int (z3 + 0)), (6, .int 1), (5, .int (A 56 0 (6 * (nI j4).toNatClampNeg))), (0, .ref (ad 20 0)), (1, .int y1), (2, .int y2), (4, .int (nI j4))]) hx hb d7_audit_136 rfl hl (by decide) rfl (fun ls hl => ?_)
                refine lv_iinc (v := nI (j4 + 1)) (lv' := [(4, .int (nI (j4 + 1))), (3, .int (z3 + 0)), (6, .int 1), (5, .int (A 56 0 (6 * (nI j4).toNatClampNeg))), (0, .ref (ad 20 0)), (1, .int y1), (2, .int y2)]) hx hb d7_audit_137 hl (k := 6) rfl (nI_1 j4) (by decide) rfl (fun ls hl => ?_)
                refine lv_goto (tgt := 25) hx hb d7_audit_140 (by decide) ?_
                exact ih (z3 + 0) (j4 + 1) (by (have aj4 := nI_toInt (n := j4) (by omega)); (have kc_101 := nle_i c_101); (have l0 : (0 : Int32).toInt = 0 := rfl); (have l20 : (20 : Int32).toInt = 20 := rfl); (have l34 : (34 : Int32).toInt = 34 := rfl);  omega) (by (have aj4 := nI_toInt (n := j4) (by omega)); (have kc_101 := nle_i c_101); (have l0 : (0 : Int32).toInt = 0 := rfl); (have l20 : (20 : Int32).toInt = 20 := rfl); (have l34 : (34 : Int32).toInt = 34 := rfl);  omega) (lv_sub hl [4, 5, 6, 1, 0] rfl) (by rw [if_neg c_101, if_pos c_102, if_neg c_105, if_neg c_106, if_neg c_107, if_neg c_108] at hO; exact hO) hk
              · refine lv_aload_n hx hb d7_audit_118 rfl (lv_at hl 2 rfl) ?_
                refine sr_get (v := .ref (ad 56 0)) hx hb hw hown hK hB 35 (hX 20 (by decide)) cf_20 us7 (by decide) fl_7_84 (rfl) d7_audit_119 ?_
                refine lv_bipush (v := 6) hx hb d7_audit_122 (by decide) ?_
                refine lv_iload hx hb d7_audit_124 (lv_at hl 6 rfl) ?_
                refine lv_imul hx hb d7_audit_126 ?_
                refine lv_iconst (v := 4) hx hb d7_audit_127 (by decide) ?_
                refine lv_iadd hx hb d7_audit_128 ?_
                refine sr_iald (v := A 56 0 (6 * (nI j4).toNatClampNeg + 4)) hx hb hK hB (hX 56 (by decide)) rfl rfl (by (have aj4 := nI_toInt (n := j4) (by omega)); (have kc_101 := nle_i c_101); (have l0 : (0 : Int32).toInt = 0 := rfl); (have l20 : (20 : Int32).toInt = 20 := rfl); (have l34 : (34 : Int32).toInt = 34 := rfl);  exact ix6_in (x := (nI j4)) (j := 4) (by omega) (by omega) (by omega) (show _ < ((1800 : Nat) : Int) by omega)) d7_audit_129 (by (have aj4 := nI_toInt (n := j4) (by omega)); (have kc_101 := nle_i c_101); (have l0 : (0 : Int32).toInt = 0 := rfl); (have l20 : (20 : Int32).toInt = 20 := rfl); (have l34 : (34 : Int32).toInt = 34 := rfl);  exact Eq.trans (congrArg (fun q => A 56 0 q) (ix6 (x := (nI j4)) (j := 4) (by omega) (by omega) (by omega))) rfl) ?_
                refine lv_ineg hx hb d7_audit_130 ?_
                refine lv_goto (tgt := 135) hx hb d7_audit_131 (by decide) ?_
                refine lv_iadd hx hb d7_audit_135 ?_
                refine lv_istore_n (lv' := [(3, .int (z3 + (-(A 56 0 (6 * (nI j4).toNatClampNeg + 4))))), (6, .int 1), (5, .int (A 56 0 (6 * (nI j4).toNatClampNeg))), (0, .ref (ad 20 0)), (1, .int y1), (2, .int y2), (4, .int (nI j4))]) hx hb d7_audit_136 rfl hl (by decide) rfl (fun ls hl => ?_)
                refine lv_iinc (v := nI (j4 + 1)) (lv' := [(4, .int (nI (j4 + 1))), (3, .int (z3 + (-(A 56 0 (6 * (nI j4).toNatClampNeg + 4))))), (6, .int 1), (5, .int (A 56 0 (6 * (nI j4).toNatClampNeg))), (0, .ref (ad 20 0)), (1, .int y1), (2, .int y2)]) hx hb d7_audit_137 hl (k := 6) rfl (nI_1 j4) (by decide) rfl (fun ls hl => ?_)
                refine lv_goto (tgt := 25) hx hb d7_audit_140 (by decide) ?_
                exact ih (z3 + (-(A 56 0 (6 * (nI j4).toNatClampNeg + 4)))) (j4 + 1) (by (have aj4 := nI_toInt (n := j4) (by omega)); (have kc_101 := nle_i c_101); (have l0 : (0 : Int32).toInt = 0 := rfl); (have l20 : (20 : Int32).toInt = 20 := rfl); (have l34 : (34 : Int32).toInt = 34 := rfl);  omega) (by (have aj4 := nI_toInt (n := j4) (by omega)); (have kc_101 := nle_i c_101); (have l0 : (0 : Int32).toInt = 0 := rfl); (have l20 : (20 : Int32).toInt = 20 := rfl); (have l34 : (34 : Int32).toInt = 34 := rfl);  omega) (lv_sub hl [4, 5, 6, 1, 0] rfl) (by rw [if_neg c_101, if_pos c_102, if_neg c_105, if_neg c_106, if_neg c_107, if_pos c_108] at hO; exact hO) hk
          · refine lv_aload_n hx hb d7_audit_91 rfl (lv_at hl 2 rfl) ?_
            refine sr_get (v := .ref (ad 56 0)) hx hb hw hown hK hB 35 (hX 20 (by decide)) cf_20 us7 (by decide) fl_7_84 (rfl) d7_audit_92 ?_
            refine lv_bipush (v := 6) hx hb d7_audit_95 (by decide) ?_
            refine lv_iload hx hb d7_audit_97 (lv_at hl 6 rfl) ?_
            refine lv_imul hx hb d7_audit_99 ?_
            refine lv_iconst (v := 4) hx hb d7_audit_100 (by decide) ?_
            refine lv_iadd hx hb d7_audit_101 ?_
            refine sr_iald (v := A 56 0 (6 * (nI j4).toNatClampNeg + 4)) hx hb hK hB (hX 56 (by decide)) rfl rfl (by (have aj4 := nI_toInt (n := j4) (by omega)); (have kc_101 := nle_i c_101); (have l0 : (0 : Int32).toInt = 0 := rfl); (have l20 : (20 : Int32).toInt = 20 := rfl); (have l34 : (34 : Int32).toInt = 34 := rfl);  exact ix6_in (x := (nI j4)) (j := 4) (by omega) (by omega) (by omega) (show _ < ((1800 : Nat) : Int) by omega)) d7_audit_102 (by (have aj4 := nI_toInt (n := j4) (by omega)); (have kc_101 := nle_i c_101); (have l0 : (0 : Int32).toInt = 0 := rfl); (have l20 : (20 : Int32).toInt = 20 := rfl); (have l34 : (34 : Int32).toInt = 34 := rfl);  exact Eq.trans (congrArg (fun q => A 56 0 q) (ix6 (x := (nI j4)) (j := 4) (by omega) (by omega) (by omega))) rfl) ?_
            refine lv_goto (tgt := 135) hx hb d7_audit_103 (by decide) ?_
            refine lv_iadd hx hb d7_audit_135 ?_
            refine lv_istore_n (lv' := [(3, .int (z3 + (A 56 0 (6 * (nI j4).toNatClampNeg + 4)))), (6, .int 1), (5, .int (A 56 0 (6 * (nI j4).toNatClampNeg))), (0, .ref (ad 20 0)), (1, .int y1), (2, .int y2), (4, .int (nI j4))]) hx hb d7_audit_136 rfl hl (by decide) rfl (fun ls hl => ?_)
            refine lv_iinc (v := nI (j4 + 1)) (lv' := [(4, .int (nI (j4 + 1))), (3, .int (z3 + (A 56 0 (6 * (nI j4).toNatClampNeg + 4)))), (6, .int 1), (5, .int (A 56 0 (6 * (nI j4).toNatClampNeg))), (0, .ref (ad 20 0)), (1, .int y1), (2, .int y2)]) hx hb d7_audit_137 hl (k := 6) rfl (nI_1 j4) (by decide) rfl (fun ls hl => ?_)
            refine lv_goto (tgt := 25) hx hb d7_audit_140 (by decide) ?_
            exact ih (z3 + (A 56 0 (6 * (nI j4).toNatClampNeg + 4))) (j4 + 1) (by (have aj4 := nI_toInt (n := j4) (by omega)); (have kc_101 := nle_i c_101); (have l0 : (0 : Int32).toInt = 0 := rfl); (have l20 : (20 : Int32).toInt = 20 := rfl); (have l34 : (34 : Int32).toInt = 34 := rfl);  omega) (by (have aj4 := nI_toInt (n := j4) (by omega)); (have kc_101 := nle_i c_101); (have l0 : (0 : Int32).toInt = 0 := rfl); (have l20 : (20 : Int32).toInt = 20 := rfl); (have l34 : (34 : Int32).toInt = 34 := rfl);  omega) (lv_sub hl [4, 5, 6, 1, 0] rfl) (by rw [if_neg c_101, if_pos c_102, if_neg c_105, if_pos c_106] at hO; exact hO) hk
set_option maxRecDepth 100000 in
set_option maxHeartbeats 4000000 in
theorem k7_audit_14 {p : Program} {l : Launch} {e : Env} {s : State} {m : MethodId} {args : Array Value} {below : List Frame} {meth : Method} {c : Code} {D : va_G} {aC : Nat → ClassId} {ad : Nat → Nat → Nat} {X : Nat → Nat → Prop} {G : sG} {S A : sS} (C0 : s_C p s m args meth c b7_audit 7 R7 (some .int) D aC) (hB : s_B D aC ad X (s_N ad X) S A G s.heap s.heap []) (hX : xR X)  (hlo : ∀ i, i < 64 → 0 ≤ (A 36 0 i).toInt ∧ (A 36 0 i).toInt ≤ 6) (hen : 0 ≤ (S 20 0 34).toInt ∧ (S 20 0 34).toInt ≤ 300) : ∀ (r : Nat) (z1 : Int32) (j2 : Nat) (hj : j2 ≤ 64) (hr3 : 64 < j2 + r) {ls : Array Slot} (hl : lv_has ls 7 [(0, .ref (ad 20 0)), (1, .int z1), (2, .int (nI j2))]) {o : Int32} (hO : V7_audit_14 G  r S A z1 j2 = o), W p l e (rmk 1) s m args below meth c s.heap [] 0 0 (MQ below (s_Qp o) args s 0 0 (fun _ => False)) (F0 m 14 ls []) := by
  obtain ⟨hx, hb, hml, hown, hw, hK, hr, hlocks⟩ := id C0
  intro r
  induction r with
  | zero =>
    intro z1 j2 hj hr3 ls hl o hO
    exact absurd hr3 (by omega)
  | succ r ih =>
    intro z1 j2 hj hr3 ls hl o hO
    rw [V7_audit_14] at hO
    refine lv_iload_n hx hb d7_audit_14 rfl (lv_at hl 2 rfl) ?_
    refine lv_bipush (v := 64) hx hb d7_audit_15 (by decide) ?_
    refine lv_icmp_ge (tgt := 166) hx hb d7_audit_17 (by decide) (fun c_1 => ?_) (fun c_1 => ?_)
    · refine lv_iload_n hx hb d7_audit_166 rfl (lv_at hl 1 rfl) ?_
      exact se_pi C0 (by rw [if_pos c_1] at hO; exact hO) d7_audit_167
    · refine lv_iconst (v := 0) hx hb d7_audit_20 (by decide) ?_
      refine lv_istore_n (lv' := [(3, .int 0), (0, .ref (ad 20 0)), (1, .int z1), (2, .int (nI j2))]) hx hb d7_audit_21 rfl hl (by decide) rfl (fun ls hl => ?_)
      refine lv_iconst (v := 0) hx hb d7_audit_22 (by decide) ?_
      refine lv_istore (lv' := [(4, .int 0), (3, .int 0), (0, .ref (ad 20 0)), (1, .int z1), (2, .int (nI j2))]) hx hb d7_audit_23 hl (by decide) rfl (fun ls hl => ?_)
      refine kv7_audit_25 C0 hB hX  hlo hen z1 (nI j2) 301 0 0 (by (have aj2 := nI_toInt (n := j2) (by omega)); (have kc_1 := nle_i c_1); (have l64 : (64 : Int32).toInt = 64 := rfl);  omega) (by (have aj2 := nI_toInt (n := j2) (by omega)); (have kc_1 := nle_i c_1); (have l64 : (64 : Int32).toInt = 64 := rfl);  omega) (lv_sub hl [2, 3, 4, 1, 0] rfl) rfl (fun ls hl => ?_)
      refine lv_iload_n hx hb d7_audit_143 rfl (lv_at hl 1 rfl) ?_
      refine lv_iload_n hx hb d7_audit_144 rfl (lv_at hl 3 rfl) ?_
      refine lv_aload_n hx hb d7_audit_145 rfl (lv_at hl 0 rfl) ?_
      refine lv_iload_n hx hb d7_audit_146 rfl (lv_at hl 2 rfl) ?_
      refine sr_vp C0 hB (m7_bookOf hX (nI j2) (by (have aj2 := nI_toInt (n := j2) (by omega)); (have kc_1 := nle_i c_1); (have l64 : (64 : Int32).toInt = 64 := rfl);  first | assumption | omega) (by (have aj2 := nI_toInt (n := j2) (by omega)); (have kc_1 := nle_i c_1); (have l64 : (64 : Int32).toInt = 64 := rfl);  first | assumption | omega)) (hX 20 (by decide)) cf_20 ml_7_169 im_7_bookOf se_7_bookOf in_7 cd_7_bookOf hd7_bookOf ⟨⟨rfl, rfl⟩, by decide, by decide⟩ ⟨Nat.zero_le _, Nat.zero_le _⟩ hl.1 rfl (Nat.le_of_ble_eq_true rfl) d7_audit_147 ?_
      refine lv_icmp_ne (tgt := 157) hx hb d7_audit_150 (by decide) (fun c_2 => ?_) (fun c_2 => ?_)
      · refine lv_iconst (v := 1) hx hb d7_audit_157 (by decide) ?_
        refine lv_iadd hx hb d7_audit_158 ?_
        refine lv_istore_n (lv' := [(1, .int (z1 + 1)), (0, .ref (ad 20 0)), (2, .int (nI j2)), (3, .int (VV7_audit_25 S A G  z1 (nI j2) 301 0 0))]) hx hb d7_audit_159 rfl hl (by decide) rfl (fun ls hl => ?_)
        refine lv_iinc (v := nI (j2 + 1)) (lv' := [(2, .int (nI (j2 + 1))), (1, .int (z1 + 1)), (0, .ref (ad 20 0)), (3, .int (VV7_audit_25 S A G  z1 (nI j2) 301 0 0))]) hx hb d7_audit_160 hl (k := 2) rfl (nI_1 j2) (by decide) rfl (fun ls hl => ?_)
        refine lv_goto (tgt := 14) hx hb d7_audit_163 (by decide) ?_
        exact ih (z1 + 1) (j2 + 1) (by (have aj2 := nI_toInt (n := j2) (by omega)); (have kc_1 := nle_i c_1); (have l64 : (64 : Int32).toInt = 64 := rfl);  omega) (by (have aj2 := nI_toInt (n := j2) (by omega)); (have kc_1 := nle_i c_1); (have l64 : (64 : Int32).toInt = 64 := rfl);  omega) (lv_sub hl [2, 1, 0] rfl) (by rw [if_neg c_1, if_neg c_2] at hO; exact hO)
      · refine lv_iconst (v := 0) hx hb d7_audit_153 (by decide) ?_
        refine lv_goto (tgt := 158) hx hb d7_audit_154 (by decide) ?_
        refine lv_iadd hx hb d7_audit_158 ?_
        refine lv_istore_n (lv' := [(1, .int (z1 + 0)), (0, .ref (ad 20 0)), (2, .int (nI j2)), (3, .int (VV7_audit_25 S A G  z1 (nI j2) 301 0 0))]) hx hb d7_audit_159 rfl hl (by decide) rfl (fun ls hl => ?_)
        refine lv_iinc (v := nI (j2 + 1)) (lv' := [(2, .int (nI (j2 + 1))), (1, .int (z1 + 0)), (0, .ref (ad 20 0)), (3, .int (VV7_audit_25 S A G  z1 (nI j2) 301 0 0))]) hx hb d7_audit_160 hl (k := 2) rfl (nI_1 j2) (by decide) rfl (fun ls hl => ?_)
        refine lv_goto (tgt := 14) hx hb d7_audit_163 (by decide) ?_
        exact ih (z1 + 0) (j2 + 1) (by (have aj2 := nI_toInt (n := j2) (by omega)); (have kc_1 := nle_i c_1); (have kc_2 := congrArg Int32.toInt c_2); (have l0 : (0 : Int32).toInt = 0 := rfl); (have l301 : (301 : Int32).toInt = 301 := rfl); (have l64 : (64 : Int32).toInt = 64 := rfl);  omega) (by (have aj2 := nI_toInt (n := j2) (by omega)); (have kc_1 := nle_i c_1); (have kc_2 := congrArg Int32.toInt c_2); (have l0 : (0 : Int32).toInt = 0 := rfl); (have l301 : (301 : Int32).toInt = 301 := rfl); (have l64 : (64 : Int32).toInt = 64 := rfl);  omega) (lv_sub hl [2, 1, 0] rfl) (by rw [if_neg c_1, if_pos c_2] at hO; exact hO)
set_option maxRecDepth 100000 in
set_option maxHeartbeats 4000000 in
theorem k7_audit_0 {p : Program} {l : Launch} {e : Env} {s : State} {m : MethodId} {args : Array Value} {below : List Frame} {meth : Method} {c : Code} {D : va_G} {aC : Nat → ClassId} {ad : Nat → Nat → Nat} {X : Nat → Nat → Prop} {S A : sS} {G : sG} (C0 : s_C p s m args meth c b7_audit 7 R7 (some .int) D aC) (hB : s_B D aC ad X (s_N ad X) S A G s.heap s.heap []) (hX : xR X)  (hlo : ∀ i, i < 64 → 0 ≤ (A 36 0 i).toInt ∧ (A 36 0 i).toInt ≤ 6) (hen : 0 ≤ (S 20 0 34).toInt ∧ (S 20 0 34).toInt ≤ 300) {ls : Array Slot} (hl : lv_has ls 7 [(0, .ref (ad 20 0))]) {o : Int32} (hO : V7_audit S A G  = o) : W p l e (rmk 1) s m args below meth c s.heap [] 0 0 (MQ below (s_Qp o) args s 0 0 (fun _ => False)) (F0 m 0 ls []) := by
  obtain ⟨hx, hb, hml, hown, hw, hK, hr, hlocks⟩ := id C0
  unfold V7_audit at hO
  refine lv_aload_n hx hb d7_audit_0 rfl (lv_at hl 0 rfl) ?_
  refine sr_vp C0 hB (m7_wholeCopies hX  ) (hX 20 (by decide)) cf_20 ml_7_197 im_7_wholeCopies se_7_wholeCopies in_7 cd_7_wholeCopies hd7_wholeCopies ⟨⟨rfl, rfl⟩, by decide, by decide⟩ ⟨Nat.zero_le _, Nat.zero_le _⟩ hl.1 rfl (Nat.le_of_ble_eq_true rfl) d7_audit_1 ?_
  refine lv_if_ne (tgt := 10) hx hb d7_audit_4 (by decide) (fun c_1 => ?_) (fun c_1 => ?_)
  · refine lv_iconst (v := 0) hx hb d7_audit_10 (by decide) ?_
    refine lv_istore_n (lv' := [(1, .int 0), (0, .ref (ad 20 0))]) hx hb d7_audit_11 rfl hl (by decide) rfl (fun ls hl => ?_)
    refine lv_iconst (v := 0) hx hb d7_audit_12 (by decide) ?_
    refine lv_istore_n (lv' := [(2, .int 0), (1, .int 0), (0, .ref (ad 20 0))]) hx hb d7_audit_13 rfl hl (by decide) rfl (fun ls hl => ?_)
    exact k7_audit_14 C0 hB hX  hlo hen 65 0 0 (by  omega) (by  omega) (lv_sub hl [2, 1, 0] rfl) (by rw [if_neg c_1] at hO; exact hO)
  · refine lv_bipush (v := (-8)) hx hb d7_audit_7 (by decide) ?_
    exact se_pi C0 (by rw [if_pos c_1] at hO; exact hO) d7_audit_9
theorem hd7_audit : y7_audit.cls = R7 ∧ y7_audit.cls ≠ "java/lang/invoke/MethodHandle" ∧ y7_audit.cls ≠ "java/lang/invoke/VarHandle" ∧ (parseMethodDescriptor y7_audit.desc).map (fun d => d.parameters.length) = some 0 := ⟨rfl, by decide, by decide, by decide +kernel⟩
theorem m7_audit {l : Launch} {D : va_G} {aC : Nat → ClassId} {ad : Nat → Nat → Nat} {X : Nat → Nat → Prop} {S A : sS} {G : sG} (hX : xR X)  (hlo : ∀ i, i < 64 → 0 ≤ (A 36 0 i).toInt ∧ (A 36 0 i).toInt ≤ 6) (hen : 0 ≤ (S 20 0 34).toInt ∧ (S 20 0 34).toInt ≤ 300) : Met l y7_audit (.code y7_audit b7_audit 7 (some .int) :: wall) (rmk 1) (s_Pc [.ref (ad 20 0)] D aC ad X S A G) (s_Qp (V7_audit S A G )) 0 0 (fun _ => False) :=
  s_met (by decide) rfl (Nat.le_of_ble_eq_true rfl) (fun p e s m args below meth c C0 hB ls hl => k7_audit_0 C0 hB hX  hlo hen hl rfl)
