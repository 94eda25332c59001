theorem hasUser_t {S A : sS} {G : sG} {x : Int32} (h : ¬ V7_hasUser S A G x = 0) : 0 ≤ x.toInt ∧ x.toInt < 16 := by
  unfold V7_hasUser at h
  by_cases h1 : V7_in S A G x 0 15 = 0
  · exact absurd (if_pos h1) h
  · have h2 := in_t h1
    have l0 : (0 : Int32).toInt = 0 := rfl
    have l15 : (15 : Int32).toInt = 15 := rfl
    omega
theorem hasItem_t {S A : sS} {G : sG} {x : Int32} (h : ¬ V7_hasItem S A G x = 0) : 0 ≤ x.toInt ∧ x.toInt < 32 := by
  unfold V7_hasItem at h
  by_cases h1 : V7_in S A G x 0 31 = 0
  · exact absurd (if_pos h1) h
  · have h2 := in_t h1
    have l0 : (0 : Int32).toInt = 0 := rfl
    have l31 : (31 : Int32).toInt = 31 := rfl
    omega
theorem hasBin_t {S A : sS} {G : sG} {x : Int32} (h : ¬ V7_hasBin S A G x = 0) : 0 ≤ x.toInt ∧ x.toInt < 64 := by
  have h2 := in_t (S := S) (A := A) (G := G) (x := x) (a := 0) (b := 63) h
  have l0 : (0 : Int32).toInt = 0 := rfl
  have l63 : (63 : Int32).toInt = 63 := rfl
  omega
theorem hasOrder_t {S A : sS} {G : sG} {x : Int32} (h : ¬ V7_hasOrder S A G x = 0) : 0 ≤ x.toInt ∧ x.toInt ≤ (S 20 0 20 - 1).toInt := by
  have h2 := in_t (S := S) (A := A) (G := G) (x := x) (a := 0) (b := S 20 0 20 - 1) h
  have l0 : (0 : Int32).toInt = 0 := rfl
  omega

def O7_login_30 (S A : sS) (G : sG) (x1 : Int32) (x2 : Int32) (t0 : Int32) : Int32 × sS × sS := if 0 ≤ t0 then (0, (up3 (up3 (up3 S 20 0 6 x1) 20 0 7 (S 20 0 0)) 20 0 8 (-1)), A) else (t0, S, A)
def O7_login (S A : sS) (G : sG) (x1 : Int32) (x2 : Int32) : Int32 × sS × sS := if V7_hasUser S A G x1 = 0 then O7_login_30 S A G x1 x2 (-1) else if S 20 0 27 < 0 then O7_login_30 (O7_tryCode S A G x1 x2).2.1 (O7_tryCode S A G x1 x2).2.2 G x1 x2 ((O7_tryCode S A G x1 x2).1) else O7_login_30 S A G x1 x2 (-4)
set_option maxRecDepth 100000 in
set_option maxHeartbeats 4000000 in
theorem k7_login_30 {p : Program} {l : Launch} {e : Env} {s : State} {m : MethodId} {args : Array Value} {below : List Frame} {meth : Method} {c : Code} {D : va_G} {aC : Nat → ClassId} {ad : Nat → Nat → Nat} {X : Nat → Nat → Prop} {S A : sS} {G : sG} {H : Heap} {locs : List Loc} (C0 : s_C p s m args meth c b7_login 4 R7 (some .int) D aC) (hB : s_B D aC ad X (s_N ad X) S A G s.heap H locs) (hX : xR X) (x1 : Int32) (x2 : Int32) (t0 : Int32)  {ls : Array Slot} (hl : lv_has ls 4 [(0, .ref (ad 20 0)), (1, .int x1), (2, .int x2)]) {o : Int32 × sS × sS} (hO : O7_login_30 S A G x1 x2 t0 = o) : W p l e (rmk 2) s m args below meth c H locs 0 0 (MQ below (s_Qi D aC ad X G o) args s 0 0 (s_N ad X)) (F0 m 30 ls [.int t0]) := by
  obtain ⟨hx, hb, hml, hown, hw, hK, hr, hlocks⟩ := id C0
  unfold O7_login_30 at hO
  refine lv_istore_n (lv' := [(3, .int t0), (0, .ref (ad 20 0)), (1, .int x1), (2, .int x2)]) hx hb d7_login_30 rfl hl (by decide) rfl (fun ls hl => ?_)
  refine lv_iload_n hx hb d7_login_31 rfl (lv_at hl 0 rfl) ?_
  refine lv_if_ge (tgt := 37) hx hb d7_login_32 (by decide) (fun c_1 => ?_) (fun c_1 => ?_)
  · refine lv_aload_n hx hb d7_login_37 rfl (lv_at hl 1 rfl) ?_
    refine lv_iload_n hx hb d7_login_38 rfl (lv_at hl 2 rfl) ?_
    refine sr_put hx hb hw hown hK hB 6 (hX 20 (by decide)) cf_20 us7 tk7 nm7 (by decide) fl_7_26 rfl rfl rfl rfl d7_login_39 (fun H locs hB => ?_)
    refine lv_aload_n hx hb d7_login_42 rfl (lv_at hl 1 rfl) ?_
    refine lv_aload_n hx hb d7_login_43 rfl (lv_at hl 1 rfl) ?_
    refine sr_get (v := .int (S 20 0 0)) hx hb hw hown hK hB 0 (hX 20 (by decide)) cf_20 us7 (by decide) fl_7_100 (rfl) d7_login_44 ?_
    refine sr_put hx hb hw hown hK hB 7 (hX 20 (by decide)) cf_20 us7 tk7 nm7 (by decide) fl_7_114 rfl rfl rfl rfl d7_login_47 (fun H locs hB => ?_)
    refine lv_aload_n hx hb d7_login_50 rfl (lv_at hl 1 rfl) ?_
    refine lv_iconst (v := (-1)) hx hb d7_login_51 (by decide) ?_
    refine sr_put hx hb hw hown hK hB 8 (hX 20 (by decide)) cf_20 us7 tk7 nm7 (by decide) fl_7_30 rfl rfl rfl rfl d7_login_52 (fun H locs hB => ?_)
    refine lv_iconst (v := 0) hx hb d7_login_55 (by decide) ?_
    exact se_i C0 hB (by rw [if_pos c_1] at hO; exact hO) d7_login_56
  · refine lv_iload_n hx hb d7_login_35 rfl (lv_at hl 0 rfl) ?_
    exact se_i C0 hB (by rw [if_neg c_1] at hO; exact hO) d7_login_36
set_option maxRecDepth 100000 in
set_option maxHeartbeats 4000000 in
theorem k7_login_0 {p : Program} {l : Launch} {e : Env} {s : State} {m : MethodId} {args : Array Value} {below : List Frame} {meth : Method} {c : Code} {D : va_G} {aC : Nat → ClassId} {ad : Nat → Nat → Nat} {X : Nat → Nat → Prop} {S A : sS} {G : sG} {H : Heap} {locs : List Loc} (C0 : s_C p s m args meth c b7_login 4 R7 (some .int) D aC) (hB : s_B D aC ad X (s_N ad X) S A G s.heap H locs) (hX : xR X) (x1 : Int32) (x2 : Int32)  {ls : Array Slot} (hl : lv_has ls 4 [(0, .ref (ad 20 0)), (1, .int x1), (2, .int x2)]) {o : Int32 × sS × sS} (hO : O7_login S A G x1 x2 = o) : W p l e (rmk 2) s m args below meth c H locs 0 0 (MQ below (s_Qi D aC ad X G o) args s 0 0 (s_N ad X)) (F0 m 0 ls []) := by
  obtain ⟨hx, hb, hml, hown, hw, hK, hr, hlocks⟩ := id C0
  unfold O7_login at hO
  refine lv_aload_n hx hb d7_login_0 rfl (lv_at hl 0 rfl) ?_
  refine lv_iload_n hx hb d7_login_1 rfl (lv_at hl 1 rfl) ?_
  refine sr_vp C0 hB (m7_hasUser hX x1 ) (hX 20 (by decide)) cf_20 ml_7_106 im_7_hasUser se_7_hasUser in_7 cd_7_hasUser hd7_hasUser ⟨⟨rfl, rfl⟩, by decide, by decide⟩ ⟨Nat.zero_le _, Nat.zero_le _⟩ hl.1 rfl (Nat.le_of_ble_eq_true rfl) d7_login_2 ?_
  refine lv_if_ne (tgt := 12) hx hb d7_login_5 (by decide) (fun c_1 => ?_) (fun c_1 => ?_)
  · refine lv_aload_n hx hb d7_login_12 rfl (lv_at hl 0 rfl) ?_
    refine sr_get (v := .int (S 20 0 27)) hx hb hw hown hK hB 27 (hX 20 (by decide)) cf_20 us7 (by decide) fl_7_81 (rfl) d7_login_13 ?_
    refine lv_if_lt (tgt := 24) hx hb d7_login_16 (by decide) (fun c_2 => ?_) (fun c_2 => ?_)
    · refine lv_aload_n hx hb d7_login_24 rfl (lv_at hl 0 rfl) ?_
      refine lv_iload_n hx hb d7_login_25 rfl (lv_at hl 1 rfl) ?_
      refine lv_iload_n hx hb d7_login_26 rfl (lv_at hl 2 rfl) ?_
      refine sr_vi C0 hB (m7_tryCode hX x1 x2 (by (have kc_1 := hasUser_t c_1);  first | assumption | omega)) (hX 20 (by decide)) cf_20 ml_7_110 im_7_tryCode se_7_tryCode in_7 cd_7_tryCode hd7_tryCode ⟨⟨rfl, rfl⟩, by decide, by decide⟩ ⟨Nat.zero_le _, Nat.zero_le _⟩ hl.1 rfl (Nat.le_of_ble_eq_true rfl) d7_login_27 (fun H locs hB => ?_)
      exact k7_login_30 C0 hB hX x1 x2 ((O7_tryCode S A G x1 x2).1)  (lv_sub hl [0, 1, 2] rfl) (by rw [if_neg c_1, if_pos c_2] at hO; exact hO)
    · refine lv_bipush (v := (-4)) hx hb d7_login_19 (by decide) ?_
      refine lv_goto (tgt := 30) hx hb d7_login_21 (by decide) ?_
      exact k7_login_30 C0 hB hX x1 x2 (-4)  (lv_sub hl [0, 1, 2] rfl) (by rw [if_neg c_1, if_neg c_2] at hO; exact hO)
  · refine lv_iconst (v := (-1)) hx hb d7_login_8 (by decide) ?_
    refine lv_goto (tgt := 30) hx hb d7_login_9 (by decide) ?_
    exact k7_login_30 C0 hB hX x1 x2 (-1)  (lv_sub hl [0, 1, 2] rfl) (by rw [if_pos c_1] at hO; exact hO)
theorem hd7_login : y7_login.cls = R7 ∧ y7_login.cls ≠ "java/lang/invoke/MethodHandle" ∧ y7_login.cls ≠ "java/lang/invoke/VarHandle" ∧ (parseMethodDescriptor y7_login.desc).map (fun d => d.parameters.length) = some 2 := ⟨rfl, by decide, by decide, by decide +kernel⟩
theorem m7_login {l : Launch} {D : va_G} {aC : Nat → ClassId} {ad : Nat → Nat → Nat} {X : Nat → Nat → Prop} {S A : sS} {G : sG} (hX : xR X) (x1 : Int32) (x2 : Int32)  : Met l y7_login (.code y7_login b7_login 4 (some .int) :: wall) (rmk 2) (s_Pc [.ref (ad 20 0), .int x1, .int x2] D aC ad X S A G) (s_Qi D aC ad X G (O7_login S A G x1 x2)) 0 0 (s_N ad X) :=
  s_met (by decide) rfl (Nat.le_of_ble_eq_true rfl) (fun p e s m args below meth c C0 hB ls hl => k7_login_0 C0 hB hX x1 x2  hl rfl)

def O7_witness_38 (S A : sS) (G : sG) (x1 : Int32) (x2 : Int32) (t0 : Int32) : Int32 × sS × sS := if 0 ≤ t0 then ((S 20 0 0) + 120, (up3 (up3 (up3 S 20 0 8 x1) 20 0 9 ((S 20 0 0) + 120)) 20 0 7 (S 20 0 0)), A) else (t0, S, A)
def O7_witness (S A : sS) (G : sG) (x1 : Int32) (x2 : Int32) : Int32 × sS × sS := if V7_hasUser S A G x1 = 0 then ((-1), S, A) else if x1 = S 20 0 6 then O7_witness_38 S A G x1 x2 (-1) else if 0 ≤ S 20 0 6 then O7_witness_38 (O7_tryCode S A G x1 x2).2.1 (O7_tryCode S A G x1 x2).2.2 G x1 x2 ((O7_tryCode S A G x1 x2).1) else O7_witness_38 S A G x1 x2 (-2)
set_option maxRecDepth 100000 in
set_option maxHeartbeats 4000000 in
theorem k7_witness_38 {p : Program} {l : Launch} {e : Env} {s : State} {m : MethodId} {args : Array Value} {below : List Frame} {meth : Method} {c : Code} {D : va_G} {aC : Nat → ClassId} {ad : Nat → Nat → Nat} {X : Nat → Nat → Prop} {S A : sS} {G : sG} {H : Heap} {locs : List Loc} (C0 : s_C p s m args meth c b7_witness 4 R7 (some .int) D aC) (hB : s_B D aC ad X (s_N ad X) S A G s.heap H locs) (hX : xR X) (x1 : Int32) (x2 : Int32) (t0 : Int32)  {ls : Array Slot} (hl : lv_has ls 4 [(0, .ref (ad 20 0)), (1, .int x1), (2, .int x2)]) {o : Int32 × sS × sS} (hO : O7_witness_38 S A G x1 x2 t0 = o) : W p l e (rmk 2) s m args below meth c H locs 0 0 (MQ below (s_Qi D aC ad X G o) args s 0 0 (s_N ad X)) (F0 m 38 ls [.int t0]) := by
  obtain ⟨hx, hb, hml, hown, hw, hK, hr, hlocks⟩ := id C0
  unfold O7_witness_38 at hO
  refine lv_istore_n (lv' := [(3, .int t0), (0, .ref (ad 20 0)), (1, .int x1), (2, .int x2)]) hx hb d7_witness_38 rfl hl (by decide) rfl (fun ls hl => ?_)
  refine lv_iload_n hx hb d7_witness_39 rfl (lv_at hl 0 rfl) ?_
  refine lv_if_ge (tgt := 45) hx hb d7_witness_40 (by decide) (fun c_1 => ?_) (fun c_1 => ?_)
  · refine lv_aload_n hx hb d7_witness_45 rfl (lv_at hl 1 rfl) ?_
    refine lv_iload_n hx hb d7_witness_46 rfl (lv_at hl 2 rfl) ?_
    refine sr_put hx hb hw hown hK hB 8 (hX 20 (by decide)) cf_20 us7 tk7 nm7 (by decide) fl_7_30 rfl rfl rfl rfl d7_witness_47 (fun H locs hB => ?_)
    refine lv_aload_n hx hb d7_witness_50 rfl (lv_at hl 1 rfl) ?_
    refine lv_aload_n hx hb d7_witness_51 rfl (lv_at hl 1 rfl) ?_
    refine sr_get (v := .int (S 20 0 0)) hx hb hw hown hK hB 0 (hX 20 (by decide)) cf_20 us7 (by decide) fl_7_100 (rfl) d7_witness_52 ?_
    refine lv_bipush (v := 120) hx hb d7_witness_55 (by decide) ?_
    refine lv_iadd hx hb d7_witness_57 ?_
    refine sr_put hx hb hw hown hK hB 9 (hX 20 (by decide)) cf_20 us7 tk7 nm7 (by decide) fl_7_103 rfl rfl rfl rfl d7_witness_58 (fun H locs hB => ?_)
    refine lv_aload_n hx hb d7_witness_61 rfl (lv_at hl 1 rfl) ?_
    refine lv_aload_n hx hb d7_witness_62 rfl (lv_at hl 1 rfl) ?_
    refine sr_get (v := .int (S 20 0 0)) hx hb hw hown hK hB 0 (hX 20 (by decide)) cf_20 us7 (by decide) fl_7_100 (rfl) d7_witness_63 ?_
    refine sr_put hx hb hw hown hK hB 7 (hX 20 (by decide)) cf_20 us7 tk7 nm7 (by decide) fl_7_114 rfl rfl rfl rfl d7_witness_66 (fun H locs hB => ?_)
    refine lv_aload_n hx hb d7_witness_69 rfl (lv_at hl 1 rfl) ?_
    refine sr_get (v := .int ((S 20 0 0) + 120)) hx hb hw hown hK hB 9 (hX 20 (by decide)) cf_20 us7 (by decide) fl_7_103 (congrArg Value.int (by simp [up3])) d7_witness_70 ?_
    exact se_i C0 hB (by rw [if_pos c_1] at hO; exact hO) d7_witness_73
  · refine lv_iload_n hx hb d7_witness_43 rfl (lv_at hl 0 rfl) ?_
    exact se_i C0 hB (by rw [if_neg c_1] at hO; exact hO) d7_witness_44
set_option maxRecDepth 100000 in
set_option maxHeartbeats 4000000 in
theorem k7_witness_0 {p : Program} {l : Launch} {e : Env} {s : State} {m : MethodId} {args : Array Value} {below : List Frame} {meth : Method} {c : Code} {D : va_G} {aC : Nat → ClassId} {ad : Nat → Nat → Nat} {X : Nat → Nat → Prop} {S A : sS} {G : sG} {H : Heap} {locs : List Loc} (C0 : s_C p s m args meth c b7_witness 4 R7 (some .int) D aC) (hB : s_B D aC ad X (s_N ad X) S A G s.heap H locs) (hX : xR X) (x1 : Int32) (x2 : Int32)  {ls : Array Slot} (hl : lv_has ls 4 [(0, .ref (ad 20 0)), (1, .int x1), (2, .int x2)]) {o : Int32 × sS × sS} (hO : O7_witness S A G x1 x2 = o) : W p l e (rmk 2) s m args below meth c H locs 0 0 (MQ below (s_Qi D aC ad X G o) args s 0 0 (s_N ad X)) (F0 m 0 ls []) := by
  obtain ⟨hx, hb, hml, hown, hw, hK, hr, hlocks⟩ := id C0
  unfold O7_witness at hO
  refine lv_aload_n hx hb d7_witness_0 rfl (lv_at hl 0 rfl) ?_
  refine lv_iload_n hx hb d7_witness_1 rfl (lv_at hl 1 rfl) ?_
  refine sr_vp C0 hB (m7_hasUser hX x1 ) (hX 20 (by decide)) cf_20 ml_7_106 im_7_hasUser se_7_hasUser in_7 cd_7_hasUser hd7_hasUser ⟨⟨rfl, rfl⟩, by decide, by decide⟩ ⟨Nat.zero_le _, Nat.zero_le _⟩ hl.1 rfl (Nat.le_of_ble_eq_true rfl) d7_witness_2 ?_
  refine lv_if_eq (tgt := 16) hx hb d7_witness_5 (by decide) (fun c_1 => ?_) (fun c_1 => ?_)
  · refine lv_iconst (v := (-1)) hx hb d7_witness_16 (by decide) ?_
    refine lv_goto (tgt := 38) hx hb d7_witness_17 (by decide) ?_
    refine lv_istore_n (lv' := [(3, .int (-1)), (0, .ref (ad 20 0)), (1, .int x1), (2, .int x2)]) hx hb d7_witness_38 rfl hl (by decide) rfl (fun ls hl => ?_)
    refine lv_iload_n hx hb d7_witness_39 rfl (lv_at hl 0 rfl) ?_
    refine lv_if_ge (tgt := 45) hx hb d7_witness_40 (by decide) (fun c => absurd c (by decide)) (fun _ => ?_)
    refine lv_iload_n hx hb d7_witness_43 rfl (lv_at hl 0 rfl) ?_
    exact se_i C0 hB (by rw [if_pos c_1] at hO; exact hO) d7_witness_44
  · refine lv_iload_n hx hb d7_witness_8 rfl (lv_at hl 1 rfl) ?_
    refine lv_aload_n hx hb d7_witness_9 rfl (lv_at hl 0 rfl) ?_
    refine sr_get (v := .int (S 20 0 6)) hx hb hw hown hK hB 6 (hX 20 (by decide)) cf_20 us7 (by decide) fl_7_26 (rfl) d7_witness_10 ?_
    refine lv_icmp_ne (tgt := 20) hx hb d7_witness_13 (by decide) (fun c_3 => ?_) (fun c_3 => ?_)
    · refine lv_aload_n hx hb d7_witness_20 rfl (lv_at hl 0 rfl) ?_
      refine sr_get (v := .int (S 20 0 6)) hx hb hw hown hK hB 6 (hX 20 (by decide)) cf_20 us7 (by decide) fl_7_26 (rfl) d7_witness_21 ?_
      refine lv_if_ge (tgt := 32) hx hb d7_witness_24 (by decide) (fun c_4 => ?_) (fun c_4 => ?_)
      · refine lv_aload_n hx hb d7_witness_32 rfl (lv_at hl 0 rfl) ?_
        refine lv_iload_n hx hb d7_witness_33 rfl (lv_at hl 1 rfl) ?_
        refine lv_iload_n hx hb d7_witness_34 rfl (lv_at hl 2 rfl) ?_
        refine sr_vi C0 hB (m7_tryCode hX x1 x2 (by (have kc_1 := hasUser_t c_1); (have kc_3 := ne_i c_3); (have l0 : (0 : Int32).toInt = 0 := rfl); (have l20 : (20 : Int32).toInt = 20 := rfl); (have l6 : (6 : Int32).toInt = 6 := rfl);  first | assumption | omega)) (hX 20 (by decide)) cf_20 ml_7_110 im_7_tryCode se_7_tryCode in_7 cd_7_tryCode hd7_tryCode ⟨⟨rfl, rfl⟩, by decide, by decide⟩ ⟨Nat.zero_le _, Nat.zero_le _⟩ hl.1 rfl (Nat.le_of_ble_eq_true rfl) d7_witness_35 (fun H locs hB => ?_)
        exact k7_witness_38 C0 hB hX x1 x2 ((O7_tryCode S A G x1 x2).1)  (lv_sub hl [0, 1, 2] rfl) (by rw [if_neg c_1, if_neg c_3, if_pos c_4] at hO; exact hO)
      · refine lv_bipush (v := (-2)) hx hb d7_witness_27 (by decide) ?_
        refine lv_goto (tgt := 38) hx hb d7_witness_29 (by decide) ?_
        exact k7_witness_38 C0 hB hX x1 x2 (-2)  (lv_sub hl [0, 1, 2] rfl) (by rw [if_neg c_1, if_neg c_3, if_neg c_4] at hO; exact hO)
    · refine lv_iconst (v := (-1)) hx hb d7_witness_16 (by decide) ?_
      refine lv_goto (tgt := 38) hx hb d7_witness_17 (by decide) ?_
      exact k7_witness_38 C0 hB hX x1 x2 (-1)  (lv_sub hl [0, 1, 2] rfl) (by rw [if_neg c_1, if_pos c_3] at hO; exact hO)
theorem hd7_witness : y7_witness.cls = R7 ∧ y7_witness.cls ≠ "java/lang/invoke/MethodHandle" ∧ y7_witness.cls ≠ "java/lang/invoke/VarHandle" ∧ (parseMethodDescriptor y7_witness.desc).map (fun d => d.parameters.length) = some 2 := ⟨rfl, by decide, by decide, by decide +kernel⟩
theorem m7_witness {l : Launch} {D : va_G} {aC : Nat → ClassId} {ad : Nat → Nat → Nat} {X : Nat → Nat → Prop} {S A : sS} {G : sG} (hX : xR X) (x1 : Int32) (x2 : Int32)  : Met l y7_witness (.code y7_witness b7_witness 4 (some .int) :: wall) (rmk 2) (s_Pc [.ref (ad 20 0), .int x1, .int x2] D aC ad X S A G) (s_Qi D aC ad X G (O7_witness S A G x1 x2)) 0 0 (s_N ad X) :=
  s_met (by decide) rfl (Nat.le_of_ble_eq_true rfl) (fun p e s m args below meth c C0 hB ls hl => k7_witness_0 C0 hB hX x1 x2  hl rfl)

def O7_order (S A : sS) (G : sG) (x1 : Int32) (x2 : Int32) (x3 : Int32) (x4 : Int32) : Int32 × sS × sS := if V7_hasItem S A G x1 = 0 then ((-1), S, A) else if V7_in S A G x2 1 1000 = 0 then ((-1), S, A) else if V7_in S A G x3 0 100000 = 0 then ((-1), S, A) else if x4 ≤ S 20 0 0 then ((-1), S, A) else if 0 ≤ S 20 0 6 then if A 23 0 ((S 20 0 6).toNatClampNeg) = 1 then if S 20 0 20 = 60 then ((-8), S, A) else (((S 20 0 20) + 1) - 1, (up3 (up3 S 20 0 20 ((S 20 0 20) + 1)) 20 0 7 (S 20 0 0)), (up3 (up3 (up3 (up3 (up3 A 42 0 ((S 20 0 20).toNatClampNeg) x1) 43 0 ((S 20 0 20).toNatClampNeg) x2) 44 0 ((S 20 0 20).toNatClampNeg) x3) 45 0 ((S 20 0 20).toNatClampNeg) x4) 47 0 ((S 20 0 20).toNatClampNeg) (-1))) else ((-3), S, A) else ((-2), S, A)
set_option maxRecDepth 100000 in
set_option maxHeartbeats 4000000 in
theorem k7_order_0 {p : Program} {l : Launch} {e : Env} {s : State} {m : MethodId} {args : Array Value} {below : List Frame} {meth : Method} {c : Code} {D : va_G} {aC : Nat → ClassId} {ad : Nat → Nat → Nat} {X : Nat → Nat → Prop} {S A : sS} {G : sG} {H : Heap} {locs : List Loc} (C0 : s_C p s m args meth c b7_order 7 R7 (some .int) D aC) (hB : s_B D aC ad X (s_N ad X) S A G s.heap H locs) (hX : xR X) (x1 : Int32) (x2 : Int32) (x3 : Int32) (x4 : Int32) (hwho : (S 20 0 6).toInt < 16) (hord : 0 ≤ (S 20 0 20).toInt ∧ (S 20 0 20).toInt ≤ 60) {ls : Array Slot} (hl : lv_has ls 7 [(0, .ref (ad 20 0)), (1, .int x1), (2, .int x2), (3, .int x3), (4, .int x4)]) {o : Int32 × sS × sS} (hO : O7_order S A G x1 x2 x3 x4 = o) : W p l e (rmk 2) s m args below meth c H locs 0 0 (MQ below (s_Qi D aC ad X G o) args s 0 0 (s_N ad X)) (F0 m 0 ls []) := by
  obtain ⟨hx, hb, hml, hown, hw, hK, hr, hlocks⟩ := id C0
  unfold O7_order at hO
  refine lv_aload_n hx hb d7_order_0 rfl (lv_at hl 0 rfl) ?_
  refine lv_iload_n hx hb d7_order_1 rfl (lv_at hl 1 rfl) ?_
  refine sr_vp C0 hB (m7_hasItem hX x1 ) (hX 20 (by decide)) cf_20 ml_7_117 im_7_hasItem se_7_hasItem in_7 cd_7_hasItem hd7_hasItem ⟨⟨rfl, rfl⟩, by decide, by decide⟩ ⟨Nat.zero_le _, Nat.zero_le _⟩ hl.1 rfl (Nat.le_of_ble_eq_true rfl) d7_order_2 ?_
  refine lv_if_eq (tgt := 42) hx hb d7_order_5 (by decide) (fun c_1 => ?_) (fun c_1 => ?_)
  · refine lv_iconst (v := 0) hx hb d7_order_42 (by decide) ?_
    refine lv_istore (lv' := [(5, .int 0), (0, .ref (ad 20 0)), (1, .int x1), (2, .int x2), (3, .int x3), (4, .int x4)]) hx hb d7_order_43 hl (by decide) rfl (fun ls hl => ?_)
    refine lv_iload hx hb d7_order_45 (lv_at hl 0 rfl) ?_
    refine lv_if_ne (tgt := 54) hx hb d7_order_47 (by decide) (fun c => absurd (by decide) c) (fun _ => ?_)
    refine lv_iconst (v := (-1)) hx hb d7_order_50 (by decide) ?_
    refine lv_goto (tgt := 99) hx hb d7_order_51 (by decide) ?_
    refine lv_istore (lv' := [(6, .int (-1)), (5, .int 0), (0, .ref (ad 20 0)), (1, .int x1), (2, .int x2), (3, .int x3), (4, .int x4)]) hx hb d7_order_99 hl (by decide) rfl (fun ls hl => ?_)
    refine lv_iload hx hb d7_order_101 (lv_at hl 0 rfl) ?_
    refine lv_if_ge (tgt := 109) hx hb d7_order_103 (by decide) (fun c => absurd c (by decide)) (fun _ => ?_)
    refine lv_iload hx hb d7_order_106 (lv_at hl 0 rfl) ?_
    exact se_i C0 hB (by rw [if_pos c_1] at hO; exact hO) d7_order_108
  · refine lv_iload_n hx hb d7_order_8 rfl (lv_at hl 2 rfl) ?_
    refine lv_iconst (v := 1) hx hb d7_order_9 (by decide) ?_
    refine lv_sipush (v := 1000) hx hb d7_order_10 (by decide) ?_
    refine sr_sp C0 hB (m7_in hX x2 1 1000 ) ml_7_93 st_7_in in_7 cd_7_in hd7_in ⟨⟨rfl, rfl⟩, by decide, by decide⟩ ⟨Nat.zero_le _, Nat.zero_le _⟩ hl.1 rfl (Nat.le_of_ble_eq_true rfl) d7_order_13 ?_
    refine lv_if_eq (tgt := 42) hx hb d7_order_16 (by decide) (fun c_4 => ?_) (fun c_4 => ?_)
    · refine lv_iconst (v := 0) hx hb d7_order_42 (by decide) ?_
      refine lv_istore (lv' := [(5, .int 0), (0, .ref (ad 20 0)), (1, .int x1), (2, .int x2), (3, .int x3), (4, .int x4)]) hx hb d7_order_43 hl (by decide) rfl (fun ls hl => ?_)
      refine lv_iload hx hb d7_order_45 (lv_at hl 0 rfl) ?_
      refine lv_if_ne (tgt := 54) hx hb d7_order_47 (by decide) (fun c => absurd (by decide) c) (fun _ => ?_)
      refine lv_iconst (v := (-1)) hx hb d7_order_50 (by decide) ?_
      refine lv_goto (tgt := 99) hx hb d7_order_51 (by decide) ?_
      refine lv_istore (lv' := [(6, .int (-1)), (5, .int 0), (0, .ref (ad 20 0)), (1, .int x1), (2, .int x2), (3, .int x3), (4, .int x4)]) hx hb d7_order_99 hl (by decide) rfl (fun ls hl => ?_)
      refine lv_iload hx hb d7_order_101 (lv_at hl 0 rfl) ?_
      refine lv_if_ge (tgt := 109) hx hb d7_order_103 (by decide) (fun c => absurd c (by decide)) (fun _ => ?_)
      refine lv_iload hx hb d7_order_106 (lv_at hl 0 rfl) ?_
      exact se_i C0 hB (by rw [if_neg c_1, if_pos c_4] at hO; exact hO) d7_order_108
    · refine lv_iload_n hx hb d7_order_19 rfl (lv_at hl 3 rfl) ?_
      refine lv_iconst (v := 0) hx hb d7_order_20 (by decide) ?_
      refine lv_ldc (v := 100000) hx hb hown (hw _ kc_7_120) d7_order_21 ?_
      refine sr_sp C0 hB (m7_in hX x3 0 100000 ) ml_7_93 st_7_in in_7 cd_7_in hd7_in ⟨⟨rfl, rfl⟩, by decide, by decide⟩ ⟨Nat.zero_le _, Nat.zero_le _⟩ hl.1 rfl (Nat.le_of_ble_eq_true rfl) d7_order_23 ?_
      refine lv_if_eq (tgt := 42) hx hb d7_order_26 (by decide) (fun c_7 => ?_) (fun c_7 => ?_)
      · refine lv_iconst (v := 0) hx hb d7_order_42 (by decide) ?_
        refine lv_istore (lv' := [(5, .int 0), (0, .ref (ad 20 0)), (1, .int x1), (2, .int x2), (3, .int x3), (4, .int x4)]) hx hb d7_order_43 hl (by decide) rfl (fun ls hl => ?_)
        refine lv_iload hx hb d7_order_45 (lv_at hl 0 rfl) ?_
        refine lv_if_ne (tgt := 54) hx hb d7_order_47 (by decide) (fun c => absurd (by decide) c) (fun _ => ?_)
        refine lv_iconst (v := (-1)) hx hb d7_order_50 (by decide) ?_
        refine lv_goto (tgt := 99) hx hb d7_order_51 (by decide) ?_
        refine lv_istore (lv' := [(6, .int (-1)), (5, .int 0), (0, .ref (ad 20 0)), (1, .int x1), (2, .int x2), (3, .int x3), (4, .int x4)]) hx hb d7_order_99 hl (by decide) rfl (fun ls hl => ?_)
        refine lv_iload hx hb d7_order_101 (lv_at hl 0 rfl) ?_
        refine lv_if_ge (tgt := 109) hx hb d7_order_103 (by decide) (fun c => absurd c (by decide)) (fun _ => ?_)
        refine lv_iload hx hb d7_order_106 (lv_at hl 0 rfl) ?_
        exact se_i C0 hB (by rw [if_neg c_1, if_neg c_4, if_pos c_7] at hO; exact hO) d7_order_108
      · refine lv_iload hx hb d7_order_29 (lv_at hl 4 rfl) ?_
        refine lv_aload_n hx hb d7_order_31 rfl (lv_at hl 0 rfl) ?_
        refine sr_get (v := .int (S 20 0 0)) hx hb hw hown hK hB 0 (hX 20 (by decide)) cf_20 us7 (by decide) fl_7_100 (rfl) d7_order_32 ?_
        refine lv_icmp_le (tgt := 42) hx hb d7_order_35 (by decide) (fun c_10 => ?_) (fun c_10 => ?_)
        · refine lv_iconst (v := 0) hx hb d7_order_42 (by decide) ?_
          refine lv_istore (lv' := [(5, .int 0), (0, .ref (ad 20 0)), (1, .int x1), (2, .int x2), (3, .int x3), (4, .int x4)]) hx hb d7_order_43 hl (by decide) rfl (fun ls hl => ?_)
          refine lv_iload hx hb d7_order_45 (lv_at hl 0 rfl) ?_
          refine lv_if_ne (tgt := 54) hx hb d7_order_47 (by decide) (fun c => absurd (by decide) c) (fun _ => ?_)
          refine lv_iconst (v := (-1)) hx hb d7_order_50 (by decide) ?_
          refine lv_goto (tgt := 99) hx hb d7_order_51 (by decide) ?_
          refine lv_istore (lv' := [(6, .int (-1)), (5, .int 0), (0, .ref (ad 20 0)), (1, .int x1), (2, .int x2), (3, .int x3), (4, .int x4)]) hx hb d7_order_99 hl (by decide) rfl (fun ls hl => ?_)
          refine lv_iload hx hb d7_order_101 (lv_at hl 0 rfl) ?_
          refine lv_if_ge (tgt := 109) hx hb d7_order_103 (by decide) (fun c => absurd c (by decide)) (fun _ => ?_)
          refine lv_iload hx hb d7_order_106 (lv_at hl 0 rfl) ?_
          exact se_i C0 hB (by rw [if_neg c_1, if_neg c_4, if_neg c_7, if_pos c_10] at hO; exact hO) d7_order_108
        · refine lv_iconst (v := 1) hx hb d7_order_38 (by decide) ?_
          refine lv_goto (tgt := 43) hx hb d7_order_39 (by decide) ?_
          refine lv_istore (lv' := [(5, .int 1), (0, .ref (ad 20 0)), (1, .int x1), (2, .int x2), (3, .int x3), (4, .int x4)]) hx hb d7_order_43 hl (by decide) rfl (fun ls hl => ?_)
          refine lv_iload hx hb d7_order_45 (lv_at hl 0 rfl) ?_
          refine lv_if_ne (tgt := 54) hx hb d7_order_47 (by decide) (fun _ => ?_) (fun c => absurd c (by decide))
          refine lv_aload_n hx hb d7_order_54 rfl (lv_at hl 1 rfl) ?_
          refine sr_get (v := .int (S 20 0 6)) hx hb hw hown hK hB 6 (hX 20 (by decide)) cf_20 us7 (by decide) fl_7_26 (rfl) d7_order_55 ?_
          refine lv_if_ge (tgt := 66) hx hb d7_order_58 (by decide) (fun c_14 => ?_) (fun c_14 => ?_)
          · refine lv_aload_n hx hb d7_order_66 rfl (lv_at hl 1 rfl) ?_
            refine sr_get (v := .ref (ad 23 0)) hx hb hw hown hK hB 2 (hX 20 (by decide)) cf_20 us7 (by decide) fl_7_13 (rfl) d7_order_67 ?_
            refine lv_aload_n hx hb d7_order_70 rfl (lv_at hl 1 rfl) ?_
            refine sr_get (v := .int (S 20 0 6)) hx hb hw hown hK hB 6 (hX 20 (by decide)) cf_20 us7 (by decide) fl_7_26 (rfl) d7_order_71 ?_
            refine sr_iald (v := A 23 0 ((S 20 0 6).toNatClampNeg)) hx hb hK hB (hX 23 (by decide)) rfl rfl (by (refine vp_in_iff.mpr ?_); (show 0 ≤ (S 20 0 6).toInt ∧ (S 20 0 6).toInt < ((16 : Nat) : Int)); (have kc_14 := le_i c_14); (have l0 : (0 : Int32).toInt = 0 := rfl); (have l20 : (20 : Int32).toInt = 20 := rfl); (have l6 : (6 : Int32).toInt = 6 := rfl);  omega) d7_order_74 (rfl) ?_
            refine lv_iconst (v := 1) hx hb d7_order_75 (by decide) ?_
            refine lv_icmp_eq (tgt := 84) hx hb d7_order_76 (by decide) (fun c_15 => ?_) (fun c_15 => ?_)
            · refine lv_aload_n hx hb d7_order_84 rfl (lv_at hl 1 rfl) ?_
              refine sr_get (v := .int (S 20 0 20)) hx hb hw hown hK hB 20 (hX 20 (by decide)) cf_20 us7 (by decide) fl_7_97 (rfl) d7_order_85 ?_
              refine lv_bipush (v := 60) hx hb d7_order_88 (by decide) ?_
              refine lv_icmp_ne (tgt := 98) hx hb d7_order_90 (by decide) (fun c_16 => ?_) (fun c_16 => ?_)
              · refine lv_iconst (v := 0) hx hb d7_order_98 (by decide) ?_
                refine lv_istore (lv' := [(6, .int 0), (5, .int 1), (0, .ref (ad 20 0)), (1, .int x1), (2, .int x2), (3, .int x3), (4, .int x4)]) hx hb d7_order_99 hl (by decide) rfl (fun ls hl => ?_)
                refine lv_iload hx hb d7_order_101 (lv_at hl 0 rfl) ?_
                refine lv_if_ge (tgt := 109) hx hb d7_order_103 (by decide) (fun _ => ?_) (fun c => absurd (by decide) c)
                refine lv_aload_n hx hb d7_order_109 rfl (lv_at hl 2 rfl) ?_
                refine sr_get (v := .ref (ad 42 0)) hx hb hw hown hK hB 21 (hX 20 (by decide)) cf_20 us7 (by decide) fl_7_63 (rfl) d7_order_110 ?_
                refine lv_aload_n hx hb d7_order_113 rfl (lv_at hl 2 rfl) ?_
                refine sr_get (v := .int (S 20 0 20)) hx hb hw hown hK hB 20 (hX 20 (by decide)) cf_20 us7 (by decide) fl_7_97 (rfl) d7_order_114 ?_
                refine lv_iload_n hx hb d7_order_117 rfl (lv_at hl 3 rfl) ?_
                refine sr_iast hx hb hK hB (hX 42 (by decide)) rfl rfl (by (refine vp_in_iff.mpr ?_); (show 0 ≤ (S 20 0 20).toInt ∧ (S 20 0 20).toInt < ((60 : Nat) : Int)); (have kc_16 := ne_i c_16); (have l0 : (0 : Int32).toInt = 0 := rfl); (have l20 : (20 : Int32).toInt = 20 := rfl); (have l60 : (60 : Int32).toInt = 60 := rfl);  omega) d7_order_118 (fun H locs hB => ?_)
                refine lv_aload_n hx hb d7_order_119 rfl (lv_at hl 2 rfl) ?_
                refine sr_get (v := .ref (ad 43 0)) hx hb hw hown hK hB 22 (hX 20 (by decide)) cf_20 us7 (by decide) fl_7_66 (rfl) d7_order_120 ?_
                refine lv_aload_n hx hb d7_order_123 rfl (lv_at hl 2 rfl) ?_
                refine sr_get (v := .int (S 20 0 20)) hx hb hw hown hK hB 20 (hX 20 (by decide)) cf_20 us7 (by decide) fl_7_97 (rfl) d7_order_124 ?_
                refine lv_iload_n hx hb d7_order_127 rfl (lv_at hl 4 rfl) ?_
                refine sr_iast hx hb hK hB (hX 43 (by decide)) rfl rfl (by (refine vp_in_iff.mpr ?_); (show 0 ≤ (S 20 0 20).toInt ∧ (S 20 0 20).toInt < ((60 : Nat) : Int)); (have kc_16 := ne_i c_16); (have l0 : (0 : Int32).toInt = 0 := rfl); (have l20 : (20 : Int32).toInt = 20 := rfl); (have l60 : (60 : Int32).toInt = 60 := rfl);  omega) d7_order_128 (fun H locs hB => ?_)
                refine lv_aload_n hx hb d7_order_129 rfl (lv_at hl 2 rfl) ?_
                refine sr_get (v := .ref (ad 44 0)) hx hb hw hown hK hB 23 (hX 20 (by decide)) cf_20 us7 (by decide) fl_7_69 (rfl) d7_order_130 ?_
                refine lv_aload_n hx hb d7_order_133 rfl (lv_at hl 2 rfl) ?_
                refine sr_get (v := .int (S 20 0 20)) hx hb hw hown hK hB 20 (hX 20 (by decide)) cf_20 us7 (by decide) fl_7_97 (rfl) d7_order_134 ?_
                refine lv_iload_n hx hb d7_order_137 rfl (lv_at hl 5 rfl) ?_
                refine sr_iast hx hb hK hB (hX 44 (by decide)) rfl rfl (by (refine vp_in_iff.mpr ?_); (show 0 ≤ (S 20 0 20).toInt ∧ (S 20 0 20).toInt < ((60 : Nat) : Int)); (have kc_16 := ne_i c_16); (have l0 : (0 : Int32).toInt = 0 := rfl); (have l20 : (20 : Int32).toInt = 20 := rfl); (have l60 : (60 : Int32).toInt = 60 := rfl);  omega) d7_order_138 (fun H locs hB => ?_)
                refine lv_aload_n hx hb d7_order_139 rfl (lv_at hl 2 rfl) ?_
                refine sr_get (v := .ref (ad 45 0)) hx hb hw hown hK hB 24 (hX 20 (by decide)) cf_20 us7 (by decide) fl_7_72 (rfl) d7_order_140 ?_
                refine lv_aload_n hx hb d7_order_143 rfl (lv_at hl 2 rfl) ?_
                refine sr_get (v := .int (S 20 0 20)) hx hb hw hown hK hB 20 (hX 20 (by decide)) cf_20 us7 (by decide) fl_7_97 (rfl) d7_order_144 ?_
                refine lv_iload hx hb d7_order_147 (lv_at hl 6 rfl) ?_
                refine sr_iast hx hb hK hB (hX 45 (by decide)) rfl rfl (by (refine vp_in_iff.mpr ?_); (show 0 ≤ (S 20 0 20).toInt ∧ (S 20 0 20).toInt < ((60 : Nat) : Int)); (have kc_16 := ne_i c_16); (have l0 : (0 : Int32).toInt = 0 := rfl); (have l20 : (20 : Int32).toInt = 20 := rfl); (have l60 : (60 : Int32).toInt = 60 := rfl);  omega) d7_order_149 (fun H locs hB => ?_)
                refine lv_aload_n hx hb d7_order_150 rfl (lv_at hl 2 rfl) ?_
                refine sr_get (v := .ref (ad 47 0)) hx hb hw hown hK hB 26 (hX 20 (by decide)) cf_20 us7 (by decide) fl_7_78 (rfl) d7_order_151 ?_
                refine lv_aload_n hx hb d7_order_154 rfl (lv_at hl 2 rfl) ?_
                refine sr_get (v := .int (S 20 0 20)) hx hb hw hown hK hB 20 (hX 20 (by decide)) cf_20 us7 (by decide) fl_7_97 (rfl) d7_order_155 ?_
                refine lv_iconst (v := (-1)) hx hb d7_order_158 (by decide) ?_
                refine sr_iast hx hb hK hB (hX 47 (by decide)) rfl rfl (by (refine vp_in_iff.mpr ?_); (show 0 ≤ (S 20 0 20).toInt ∧ (S 20 0 20).toInt < ((60 : Nat) : Int)); (have kc_16 := ne_i c_16); (have l0 : (0 : Int32).toInt = 0 := rfl); (have l20 : (20 : Int32).toInt = 20 := rfl); (have l60 : (60 : Int32).toInt = 60 := rfl);  omega) d7_order_159 (fun H locs hB => ?_)
                refine lv_aload_n hx hb d7_order_160 rfl (lv_at hl 2 rfl) ?_
                refine lv_dup hx hb d7_order_161 rfl ?_
                refine sr_get (v := .int (S 20 0 20)) hx hb hw hown hK hB 20 (hX 20 (by decide)) cf_20 us7 (by decide) fl_7_97 (rfl) d7_order_162 ?_
                refine lv_iconst (v := 1) hx hb d7_order_165 (by decide) ?_
                refine lv_iadd hx hb d7_order_166 ?_
                refine sr_put hx hb hw hown hK hB 20 (hX 20 (by decide)) cf_20 us7 tk7 nm7 (by decide) fl_7_97 rfl rfl rfl rfl d7_order_167 (fun H locs hB => ?_)
                refine lv_aload_n hx hb d7_order_170 rfl (lv_at hl 2 rfl) ?_
                refine lv_aload_n hx hb d7_order_171 rfl (lv_at hl 2 rfl) ?_
                refine sr_get (v := .int (S 20 0 0)) hx hb hw hown hK hB 0 (hX 20 (by decide)) cf_20 us7 (by decide) fl_7_100 (rfl) d7_order_172 ?_
                refine sr_put hx hb hw hown hK hB 7 (hX 20 (by decide)) cf_20 us7 tk7 nm7 (by decide) fl_7_114 rfl rfl rfl rfl d7_order_175 (fun H locs hB => ?_)
                refine lv_aload_n hx hb d7_order_178 rfl (lv_at hl 2 rfl) ?_
                refine sr_get (v := .int ((S 20 0 20) + 1)) hx hb hw hown hK hB 20 (hX 20 (by decide)) cf_20 us7 (by decide) fl_7_97 (congrArg Value.int (by simp [up3])) d7_order_179 ?_
                refine lv_iconst (v := 1) hx hb d7_order_182 (by decide) ?_
                refine lv_isub hx hb d7_order_183 ?_
                exact se_i C0 hB (by rw [if_neg c_1, if_neg c_4, if_neg c_7, if_neg c_10, if_pos c_14, if_pos c_15, if_neg c_16] at hO; exact hO) d7_order_184
              · refine lv_bipush (v := (-8)) hx hb d7_order_93 (by decide) ?_
                refine lv_goto (tgt := 99) hx hb d7_order_95 (by decide) ?_
                refine lv_istore (lv' := [(6, .int (-8)), (5, .int 1), (0, .ref (ad 20 0)), (1, .int x1), (2, .int x2), (3, .int x3), (4, .int x4)]) hx hb d7_order_99 hl (by decide) rfl (fun ls hl => ?_)
                refine lv_iload hx hb d7_order_101 (lv_at hl 0 rfl) ?_
                refine lv_if_ge (tgt := 109) hx hb d7_order_103 (by decide) (fun c => absurd c (by decide)) (fun _ => ?_)
                refine lv_iload hx hb d7_order_106 (lv_at hl 0 rfl) ?_
                exact se_i C0 hB (by rw [if_neg c_1, if_neg c_4, if_neg c_7, if_neg c_10, if_pos c_14, if_pos c_15, if_pos c_16] at hO; exact hO) d7_order_108
            · refine lv_bipush (v := (-3)) hx hb d7_order_79 (by decide) ?_
              refine lv_goto (tgt := 99) hx hb d7_order_81 (by decide) ?_
              refine lv_istore (lv' := [(6, .int (-3)), (5, .int 1), (0, .ref (ad 20 0)), (1, .int x1), (2, .int x2), (3, .int x3), (4, .int x4)]) hx hb d7_order_99 hl (by decide) rfl (fun ls hl => ?_)
              refine lv_iload hx hb d7_order_101 (lv_at hl 0 rfl) ?_
              refine lv_if_ge (tgt := 109) hx hb d7_order_103 (by decide) (fun c => absurd c (by decide)) (fun _ => ?_)
              refine lv_iload hx hb d7_order_106 (lv_at hl 0 rfl) ?_
              exact se_i C0 hB (by rw [if_neg c_1, if_neg c_4, if_neg c_7, if_neg c_10, if_pos c_14, if_neg c_15] at hO; exact hO) d7_order_108
          · refine lv_bipush (v := (-2)) hx hb d7_order_61 (by decide) ?_
            refine lv_goto (tgt := 99) hx hb d7_order_63 (by decide) ?_
            refine lv_istore (lv' := [(6, .int (-2)), (5, .int 1), (0, .ref (ad 20 0)), (1, .int x1), (2, .int x2), (3, .int x3), (4, .int x4)]) hx hb d7_order_99 hl (by decide) rfl (fun ls hl => ?_)
            refine lv_iload hx hb d7_order_101 (lv_at hl 0 rfl) ?_
            refine lv_if_ge (tgt := 109) hx hb d7_order_103 (by decide) (fun c => absurd c (by decide)) (fun _ => ?_)
            refine lv_iload hx hb d7_order_106 (lv_at hl 0 rfl) ?_
            exact se_i C0 hB (by rw [if_neg c_1, if_neg c_4, if_neg c_7, if_neg c_10, if_neg c_14] at hO; exact hO) d7_order_108
theorem hd7_order : y7_order.cls = R7 ∧ y7_order.cls ≠ "java/lang/invoke/MethodHandle" ∧ y7_order.cls ≠ "java/lang/invoke/VarHandle" ∧ (parseMethodDescriptor y7_order.desc).map (fun d => d.parameters.length) = some 4 := ⟨rfl, by decide, by decide, by decide +kernel⟩
theorem m7_order {l : Launch} {D : va_G} {aC : Nat → ClassId} {ad : Nat → Nat → Nat} {X : Nat → Nat → Prop} {S A : sS} {G : sG} (hX : xR X) (x1 : Int32) (x2 : Int32) (x3 : Int32) (x4 : Int32) (hwho : (S 20 0 6).toInt < 16) (hord : 0 ≤ (S 20 0 20).toInt ∧ (S 20 0 20).toInt ≤ 60) : Met l y7_order (.code y7_order b7_order 7 (some .int) :: wall) (rmk 2) (s_Pc [.ref (ad 20 0), .int x1, .int x2, .int x3, .int x4] D aC ad X S A G) (s_Qi D aC ad X G (O7_order S A G x1 x2 x3 x4)) 0 0 (s_N ad X) :=
  s_met (by decide) rfl (Nat.le_of_ble_eq_true rfl) (fun p e s m args below meth c C0 hB ls hl => k7_order_0 C0 hB hX x1 x2 x3 x4 hwho hord hl rfl)

def O7_cancel (S A : sS) (G : sG) (x1 : Int32) : Int32 × sS × sS := if V7_hasOrder S A G x1 = 0 then ((-1), S, A) else if 0 ≤ S 20 0 6 then if A 23 0 ((S 20 0 6).toNatClampNeg) = 1 then if S 20 0 27 = 0 then if S 20 0 29 = x1 then ((-4), S, A) else if V7_isOpen S A G x1 = 0 then ((-6), S, A) else (A 43 0 (x1.toNatClampNeg), (up3 S 20 0 7 (S 20 0 0)), (up3 A 46 0 (x1.toNatClampNeg) 1)) else if V7_isOpen S A G x1 = 0 then ((-6), S, A) else (A 43 0 (x1.toNatClampNeg), (up3 S 20 0 7 (S 20 0 0)), (up3 A 46 0 (x1.toNatClampNeg) 1)) else ((-3), S, A) else ((-2), S, A)
set_option maxRecDepth 100000 in
set_option maxHeartbeats 4000000 in
theorem k7_cancel_0 {p : Program} {l : Launch} {e : Env} {s : State} {m : MethodId} {args : Array Value} {below : List Frame} {meth : Method} {c : Code} {D : va_G} {aC : Nat → ClassId} {ad : Nat → Nat → Nat} {X : Nat → Nat → Prop} {S A : sS} {G : sG} {H : Heap} {locs : List Loc} (C0 : s_C p s m args meth c b7_cancel 3 R7 (some .int) D aC) (hB : s_B D aC ad X (s_N ad X) S A G s.heap H locs) (hX : xR X) (x1 : Int32) (hwho : (S 20 0 6).toInt < 16) (hord : 0 ≤ (S 20 0 20).toInt ∧ (S 20 0 20).toInt ≤ 60) {ls : Array Slot} (hl : lv_has ls 3 [(0, .ref (ad 20 0)), (1, .int x1)]) {o : Int32 × sS × sS} (hO : O7_cancel S A G x1 = o) : W p l e (rmk 2) s m args below meth c H locs 0 0 (MQ below (s_Qi D aC ad X G o) args s 0 0 (s_N ad X)) (F0 m 0 ls []) := by
  obtain ⟨hx, hb, hml, hown, hw, hK, hr, hlocks⟩ := id C0
  unfold O7_cancel at hO
  refine lv_aload_n hx hb d7_cancel_0 rfl (lv_at hl 0 rfl) ?_
  refine lv_iload_n hx hb d7_cancel_1 rfl (lv_at hl 1 rfl) ?_
  refine sr_vp C0 hB (m7_hasOrder hX x1 ) (hX 20 (by decide)) cf_20 ml_7_121 im_7_hasOrder se_7_hasOrder in_7 cd_7_hasOrder hd7_hasOrder ⟨⟨rfl, rfl⟩, by decide, by decide⟩ ⟨Nat.zero_le _, Nat.zero_le _⟩ hl.1 rfl (Nat.le_of_ble_eq_true rfl) d7_cancel_2 ?_
  refine lv_if_ne (tgt := 12) hx hb d7_cancel_5 (by decide) (fun c_1 => ?_) (fun c_1 => ?_)
  · refine lv_aload_n hx hb d7_cancel_12 rfl (lv_at hl 0 rfl) ?_
    refine sr_get (v := .int (S 20 0 6)) hx hb hw hown hK hB 6 (hX 20 (by decide)) cf_20 us7 (by decide) fl_7_26 (rfl) d7_cancel_13 ?_
    refine lv_if_ge (tgt := 24) hx hb d7_cancel_16 (by decide) (fun c_2 => ?_) (fun c_2 => ?_)
    · refine lv_aload_n hx hb d7_cancel_24 rfl (lv_at hl 0 rfl) ?_
      refine sr_get (v := .ref (ad 23 0)) hx hb hw hown hK hB 2 (hX 20 (by decide)) cf_20 us7 (by decide) fl_7_13 (rfl) d7_cancel_25 ?_
      refine lv_aload_n hx hb d7_cancel_28 rfl (lv_at hl 0 rfl) ?_
      refine sr_get (v := .int (S 20 0 6)) hx hb hw hown hK hB 6 (hX 20 (by decide)) cf_20 us7 (by decide) fl_7_26 (rfl) d7_cancel_29 ?_
      refine sr_iald (v := A 23 0 ((S 20 0 6).toNatClampNeg)) hx hb hK hB (hX 23 (by decide)) rfl rfl (by (refine vp_in_iff.mpr ?_); (show 0 ≤ (S 20 0 6).toInt ∧ (S 20 0 6).toInt < ((16 : Nat) : Int)); (have a1 := sub1_i (x := S 20 0 20) (by omega)); (have kc_2 := le_i c_2); (have l0 : (0 : Int32).toInt = 0 := rfl); (have l20 : (20 : Int32).toInt = 20 := rfl); (have l6 : (6 : Int32).toInt = 6 := rfl);  omega) d7_cancel_32 (rfl) ?_
      refine lv_iconst (v := 1) hx hb d7_cancel_33 (by decide) ?_
      refine lv_icmp_eq (tgt := 42) hx hb d7_cancel_34 (by decide) (fun c_3 => ?_) (fun c_3 => ?_)
      · refine lv_aload_n hx hb d7_cancel_42 rfl (lv_at hl 0 rfl) ?_
        refine sr_get (v := .int (S 20 0 27)) hx hb hw hown hK hB 27 (hX 20 (by decide)) cf_20 us7 (by decide) fl_7_81 (rfl) d7_cancel_43 ?_
        refine lv_if_ne (tgt := 62) hx hb d7_cancel_46 (by decide) (fun c_4 => ?_) (fun c_4 => ?_)
        · refine lv_aload_n hx hb d7_cancel_62 rfl (lv_at hl 0 rfl) ?_
          refine lv_iload_n hx hb d7_cancel_63 rfl (lv_at hl 1 rfl) ?_
          refine sr_vp C0 hB (m7_isOpen hX x1 (by (have a1 := sub1_i (x := S 20 0 20) (by omega)); (have kc_1 := hasOrder_t c_1);  first | assumption | omega)) (hX 20 (by decide)) cf_20 ml_7_127 im_7_isOpen se_7_isOpen in_7 cd_7_isOpen hd7_isOpen ⟨⟨rfl, rfl⟩, by decide, by decide⟩ ⟨Nat.zero_le _, Nat.zero_le _⟩ hl.1 rfl (Nat.le_of_ble_eq_true rfl) d7_cancel_64 ?_
          refine lv_if_ne (tgt := 75) hx hb d7_cancel_67 (by decide) (fun c_5 => ?_) (fun c_5 => ?_)
          · refine lv_iconst (v := 0) hx hb d7_cancel_75 (by decide) ?_
            refine lv_istore_n (lv' := [(2, .int 0), (0, .ref (ad 20 0)), (1, .int x1)]) hx hb d7_cancel_76 rfl hl (by decide) rfl (fun ls hl => ?_)
            refine lv_iload_n hx hb d7_cancel_77 rfl (lv_at hl 0 rfl) ?_
            refine lv_if_ge (tgt := 83) hx hb d7_cancel_78 (by decide) (fun _ => ?_) (fun c => absurd (by decide) c)
            refine lv_aload_n hx hb d7_cancel_83 rfl (lv_at hl 1 rfl) ?_
            refine sr_get (v := .ref (ad 46 0)) hx hb hw hown hK hB 25 (hX 20 (by decide)) cf_20 us7 (by decide) fl_7_75 (rfl) d7_cancel_84 ?_
            refine lv_iload_n hx hb d7_cancel_87 rfl (lv_at hl 2 rfl) ?_
            refine lv_iconst (v := 1) hx hb d7_cancel_88 (by decide) ?_
            refine sr_zast hx hb hK hB (hX 46 (by decide)) rfl rfl rfl (by (refine vp_in_iff.mpr ?_); (show 0 ≤ x1.toInt ∧ x1.toInt < ((60 : Nat) : Int)); (have a1 := sub1_i (x := S 20 0 20) (by omega)); (have kc_1 := hasOrder_t c_1);  omega) d7_cancel_89 (fun H locs hB => ?_)
            refine lv_aload_n hx hb d7_cancel_90 rfl (lv_at hl 1 rfl) ?_
            refine lv_aload_n hx hb d7_cancel_91 rfl (lv_at hl 1 rfl) ?_
            refine sr_get (v := .int (S 20 0 0)) hx hb hw hown hK hB 0 (hX 20 (by decide)) cf_20 us7 (by decide) fl_7_100 (rfl) d7_cancel_92 ?_
            refine sr_put hx hb hw hown hK hB 7 (hX 20 (by decide)) cf_20 us7 tk7 nm7 (by decide) fl_7_114 rfl rfl rfl rfl d7_cancel_95 (fun H locs hB => ?_)
            refine lv_aload_n hx hb d7_cancel_98 rfl (lv_at hl 1 rfl) ?_
            refine sr_get (v := .ref (ad 43 0)) hx hb hw hown hK hB 22 (hX 20 (by decide)) cf_20 us7 (by decide) fl_7_66 (rfl) d7_cancel_99 ?_
            refine lv_iload_n hx hb d7_cancel_102 rfl (lv_at hl 2 rfl) ?_
            refine sr_iald (v := A 43 0 (x1.toNatClampNeg)) hx hb hK hB (hX 43 (by decide)) rfl rfl (by (refine vp_in_iff.mpr ?_); (show 0 ≤ x1.toInt ∧ x1.toInt < ((60 : Nat) : Int)); (have a1 := sub1_i (x := S 20 0 20) (by omega)); (have kc_1 := hasOrder_t c_1);  omega) d7_cancel_103 (rfl) ?_
            exact se_i C0 hB (by rw [if_neg c_1, if_pos c_2, if_pos c_3, if_neg c_4, if_neg c_5] at hO; exact hO) d7_cancel_104
          · refine lv_bipush (v := (-6)) hx hb d7_cancel_70 (by decide) ?_
            refine lv_goto (tgt := 76) hx hb d7_cancel_72 (by decide) ?_
            refine lv_istore_n (lv' := [(2, .int (-6)), (0, .ref (ad 20 0)), (1, .int x1)]) hx hb d7_cancel_76 rfl hl (by decide) rfl (fun ls hl => ?_)
            refine lv_iload_n hx hb d7_cancel_77 rfl (lv_at hl 0 rfl) ?_
            refine lv_if_ge (tgt := 83) hx hb d7_cancel_78 (by decide) (fun c => absurd c (by decide)) (fun _ => ?_)
            refine lv_iload_n hx hb d7_cancel_81 rfl (lv_at hl 0 rfl) ?_
            exact se_i C0 hB (by rw [if_neg c_1, if_pos c_2, if_pos c_3, if_neg c_4, if_pos c_5] at hO; exact hO) d7_cancel_82
        · refine lv_aload_n hx hb d7_cancel_49 rfl (lv_at hl 0 rfl) ?_
          refine sr_get (v := .int (S 20 0 29)) hx hb hw hown hK hB 29 (hX 20 (by decide)) cf_20 us7 (by decide) fl_7_124 (rfl) d7_cancel_50 ?_
          refine lv_iload_n hx hb d7_cancel_53 rfl (lv_at hl 1 rfl) ?_
          refine lv_icmp_ne (tgt := 62) hx hb d7_cancel_54 (by decide) (fun c_8 => ?_) (fun c_8 => ?_)
          · refine lv_aload_n hx hb d7_cancel_62 rfl (lv_at hl 0 rfl) ?_
            refine lv_iload_n hx hb d7_cancel_63 rfl (lv_at hl 1 rfl) ?_
            refine sr_vp C0 hB (m7_isOpen hX x1 (by (have a1 := sub1_i (x := S 20 0 20) (by omega)); (have kc_1 := hasOrder_t c_1); (have kc_8 := ne_i c_8); (have l0 : (0 : Int32).toInt = 0 := rfl); (have l20 : (20 : Int32).toInt = 20 := rfl); (have l29 : (29 : Int32).toInt = 29 := rfl);  first | assumption | omega)) (hX 20 (by decide)) cf_20 ml_7_127 im_7_isOpen se_7_isOpen in_7 cd_7_isOpen hd7_isOpen ⟨⟨rfl, rfl⟩, by decide, by decide⟩ ⟨Nat.zero_le _, Nat.zero_le _⟩ hl.1 rfl (Nat.le_of_ble_eq_true rfl) d7_cancel_64 ?_
            refine lv_if_ne (tgt := 75) hx hb d7_cancel_67 (by decide) (fun c_9 => ?_) (fun c_9 => ?_)
            · refine lv_iconst (v := 0) hx hb d7_cancel_75 (by decide) ?_
              refine lv_istore_n (lv' := [(2, .int 0), (0, .ref (ad 20 0)), (1, .int x1)]) hx hb d7_cancel_76 rfl hl (by decide) rfl (fun ls hl => ?_)
              refine lv_iload_n hx hb d7_cancel_77 rfl (lv_at hl 0 rfl) ?_
              refine lv_if_ge (tgt := 83) hx hb d7_cancel_78 (by decide) (fun _ => ?_) (fun c => absurd (by decide) c)
              refine lv_aload_n hx hb d7_cancel_83 rfl (lv_at hl 1 rfl) ?_
              refine sr_get (v := .ref (ad 46 0)) hx hb hw hown hK hB 25 (hX 20 (by decide)) cf_20 us7 (by decide) fl_7_75 (rfl) d7_cancel_84 ?_
              refine lv_iload_n hx hb d7_cancel_87 rfl (lv_at hl 2 rfl) ?_
              refine lv_iconst (v := 1) hx hb d7_cancel_88 (by decide) ?_
              refine sr_zast hx hb hK hB (hX 46 (by decide)) rfl rfl rfl (by (refine vp_in_iff.mpr ?_); (show 0 ≤ x1.toInt ∧ x1.toInt < ((60 : Nat) : Int)); (have a1 := sub1_i (x := S 20 0 20) (by omega)); (have kc_1 := hasOrder_t c_1); (have kc_8 := ne_i c_8); (have l0 : (0 : Int32).toInt = 0 := rfl); (have l20 : (20 : Int32).toInt = 20 := rfl); (have l29 : (29 : Int32).toInt = 29 := rfl);  omega) d7_cancel_89 (fun H locs hB => ?_)
              refine lv_aload_n hx hb d7_cancel_90 rfl (lv_at hl 1 rfl) ?_
              refine lv_aload_n hx hb d7_cancel_91 rfl (lv_at hl 1 rfl) ?_
              refine sr_get (v := .int (S 20 0 0)) hx hb hw hown hK hB 0 (hX 20 (by decide)) cf_20 us7 (by decide) fl_7_100 (rfl) d7_cancel_92 ?_
              refine sr_put hx hb hw hown hK hB 7 (hX 20 (by decide)) cf_20 us7 tk7 nm7 (by decide) fl_7_114 rfl rfl rfl rfl d7_cancel_95 (fun H locs hB => ?_)
              refine lv_aload_n hx hb d7_cancel_98 rfl (lv_at hl 1 rfl) ?_
              refine sr_get (v := .ref (ad 43 0)) hx hb hw hown hK hB 22 (hX 20 (by decide)) cf_20 us7 (by decide) fl_7_66 (rfl) d7_cancel_99 ?_
              refine lv_iload_n hx hb d7_cancel_102 rfl (lv_at hl 2 rfl) ?_
              refine sr_iald (v := A 43 0 (x1.toNatClampNeg)) hx hb hK hB (hX 43 (by decide)) rfl rfl (by (refine vp_in_iff.mpr ?_); (show 0 ≤ x1.toInt ∧ x1.toInt < ((60 : Nat) : Int)); (have a1 := sub1_i (x := S 20 0 20) (by omega)); (have kc_1 := hasOrder_t c_1); (have kc_8 := ne_i c_8); (have l0 : (0 : Int32).toInt = 0 := rfl); (have l20 : (20 : Int32).toInt = 20 := rfl); (have l29 : (29 : Int32).toInt = 29 := rfl);  omega) d7_cancel_103 (rfl) ?_
              exact se_i C0 hB (by rw [if_neg c_1, if_pos c_2, if_pos c_3, if_pos c_4, if_neg c_8, if_neg c_9] at hO; exact hO) d7_cancel_104
            · refine lv_bipush (v := (-6)) hx hb d7_cancel_70 (by decide) ?_
              refine lv_goto (tgt := 76) hx hb d7_cancel_72 (by decide) ?_
              refine lv_istore_n (lv' := [(2, .int (-6)), (0, .ref (ad 20 0)), (1, .int x1)]) hx hb d7_cancel_76 rfl hl (by decide) rfl (fun ls hl => ?_)
              refine lv_iload_n hx hb d7_cancel_77 rfl (lv_at hl 0 rfl) ?_
              refine lv_if_ge (tgt := 83) hx hb d7_cancel_78 (by decide) (fun c => absurd c (by decide)) (fun _ => ?_)
              refine lv_iload_n hx hb d7_cancel_81 rfl (lv_at hl 0 rfl) ?_
              exact se_i C0 hB (by rw [if_neg c_1, if_pos c_2, if_pos c_3, if_pos c_4, if_neg c_8, if_pos c_9] at hO; exact hO) d7_cancel_82
          · refine lv_bipush (v := (-4)) hx hb d7_cancel_57 (by decide) ?_
            refine lv_goto (tgt := 76) hx hb d7_cancel_59 (by decide) ?_
            refine lv_istore_n (lv' := [(2, .int (-4)), (0, .ref (ad 20 0)), (1, .int x1)]) hx hb d7_cancel_76 rfl hl (by decide) rfl (fun ls hl => ?_)
            refine lv_iload_n hx hb d7_cancel_77 rfl (lv_at hl 0 rfl) ?_
            refine lv_if_ge (tgt := 83) hx hb d7_cancel_78 (by decide) (fun c => absurd c (by decide)) (fun _ => ?_)
            refine lv_iload_n hx hb d7_cancel_81 rfl (lv_at hl 0 rfl) ?_
            exact se_i C0 hB (by rw [if_neg c_1, if_pos c_2, if_pos c_3, if_pos c_4, if_pos c_8] at hO; exact hO) d7_cancel_82
      · refine lv_bipush (v := (-3)) hx hb d7_cancel_37 (by decide) ?_
        refine lv_goto (tgt := 76) hx hb d7_cancel_39 (by decide) ?_
        refine lv_istore_n (lv' := [(2, .int (-3)), (0, .ref (ad 20 0)), (1, .int x1)]) hx hb d7_cancel_76 rfl hl (by decide) rfl (fun ls hl => ?_)
        refine lv_iload_n hx hb d7_cancel_77 rfl (lv_at hl 0 rfl) ?_
        refine lv_if_ge (tgt := 83) hx hb d7_cancel_78 (by decide) (fun c => absurd c (by decide)) (fun _ => ?_)
        refine lv_iload_n hx hb d7_cancel_81 rfl (lv_at hl 0 rfl) ?_
        exact se_i C0 hB (by rw [if_neg c_1, if_pos c_2, if_neg c_3] at hO; exact hO) d7_cancel_82
    · refine lv_bipush (v := (-2)) hx hb d7_cancel_19 (by decide) ?_
      refine lv_goto (tgt := 76) hx hb d7_cancel_21 (by decide) ?_
      refine lv_istore_n (lv' := [(2, .int (-2)), (0, .ref (ad 20 0)), (1, .int x1)]) hx hb d7_cancel_76 rfl hl (by decide) rfl (fun ls hl => ?_)
      refine lv_iload_n hx hb d7_cancel_77 rfl (lv_at hl 0 rfl) ?_
      refine lv_if_ge (tgt := 83) hx hb d7_cancel_78 (by decide) (fun c => absurd c (by decide)) (fun _ => ?_)
      refine lv_iload_n hx hb d7_cancel_81 rfl (lv_at hl 0 rfl) ?_
      exact se_i C0 hB (by rw [if_neg c_1, if_neg c_2] at hO; exact hO) d7_cancel_82
  · refine lv_iconst (v := (-1)) hx hb d7_cancel_8 (by decide) ?_
    refine lv_goto (tgt := 76) hx hb d7_cancel_9 (by decide) ?_
    refine lv_istore_n (lv' := [(2, .int (-1)), (0, .ref (ad 20 0)), (1, .int x1)]) hx hb d7_cancel_76 rfl hl (by decide) rfl (fun ls hl => ?_)
    refine lv_iload_n hx hb d7_cancel_77 rfl (lv_at hl 0 rfl) ?_
    refine lv_if_ge (tgt := 83) hx hb d7_cancel_78 (by decide) (fun c => absurd c (by decide)) (fun _ => ?_)
    refine lv_iload_n hx hb d7_cancel_81 rfl (lv_at hl 0 rfl) ?_
    exact se_i C0 hB (by rw [if_pos c_1] at hO; exact hO) d7_cancel_82
theorem hd7_cancel : y7_cancel.cls = R7 ∧ y7_cancel.cls ≠ "java/lang/invoke/MethodHandle" ∧ y7_cancel.cls ≠ "java/lang/invoke/VarHandle" ∧ (parseMethodDescriptor y7_cancel.desc).map (fun d => d.parameters.length) = some 1 := ⟨rfl, by decide, by decide, by decide +kernel⟩
theorem m7_cancel {l : Launch} {D : va_G} {aC : Nat → ClassId} {ad : Nat → Nat → Nat} {X : Nat → Nat → Prop} {S A : sS} {G : sG} (hX : xR X) (x1 : Int32) (hwho : (S 20 0 6).toInt < 16) (hord : 0 ≤ (S 20 0 20).toInt ∧ (S 20 0 20).toInt ≤ 60) : Met l y7_cancel (.code y7_cancel b7_cancel 3 (some .int) :: wall) (rmk 2) (s_Pc [.ref (ad 20 0), .int x1] D aC ad X S A G) (s_Qi D aC ad X G (O7_cancel S A G x1)) 0 0 (s_N ad X) :=
  s_met (by decide) rfl (Nat.le_of_ble_eq_true rfl) (fun p e s m args below meth c C0 hB ls hl => k7_cancel_0 C0 hB hX x1 hwho hord hl rfl)

def O7_shut (S A : sS) (G : sG)  : Int32 × sS × sS := if S 20 0 27 < 0 then ((-4), S, A) else if S 20 0 27 = 2 then if S 20 0 32 = 0 then ((-4), S, A) else ((S 20 0 0) - (S 20 0 30), (up3 (up3 S 20 0 27 (-1)) 20 0 7 (S 20 0 0)), A) else ((S 20 0 0) - (S 20 0 30), (up3 (up3 S 20 0 27 (-1)) 20 0 7 (S 20 0 0)), A)
set_option maxRecDepth 100000 in
set_option maxHeartbeats 4000000 in
theorem k7_shut_0 {p : Program} {l : Launch} {e : Env} {s : State} {m : MethodId} {args : Array Value} {below : List Frame} {meth : Method} {c : Code} {D : va_G} {aC : Nat → ClassId} {ad : Nat → Nat → Nat} {X : Nat → Nat → Prop} {S A : sS} {G : sG} {H : Heap} {locs : List Loc} (C0 : s_C p s m args meth c b7_shut 1 R7 (some .int) D aC) (hB : s_B D aC ad X (s_N ad X) S A G s.heap H locs) (hX : xR X)   {ls : Array Slot} (hl : lv_has ls 1 [(0, .ref (ad 20 0))]) {o : Int32 × sS × sS} (hO : O7_shut S A G  = o) : W p l e (rmk 0) s m args below meth c H locs 0 0 (MQ below (s_Qi D aC ad X G o) args s 0 0 (s_N ad X)) (F0 m 0 ls []) := by
  obtain ⟨hx, hb, hml, hown, hw, hK, hr, hlocks⟩ := id C0
  unfold O7_shut at hO
  refine lv_aload_n hx hb d7_shut_0 rfl (lv_at hl 0 rfl) ?_
  refine sr_get (v := .int (S 20 0 27)) hx hb hw hown hK hB 27 (hX 20 (by decide)) cf_20 us7 (by decide) fl_7_81 (rfl) d7_shut_1 ?_
  refine lv_if_lt (tgt := 22) hx hb d7_shut_4 (by decide) (fun c_1 => ?_) (fun c_1 => ?_)
  · refine lv_bipush (v := (-4)) hx hb d7_shut_22 (by decide) ?_
    exact se_i C0 hB (by rw [if_pos c_1] at hO; exact hO) d7_shut_24
  · refine lv_aload_n hx hb d7_shut_7 rfl (lv_at hl 0 rfl) ?_
    refine sr_get (v := .int (S 20 0 27)) hx hb hw hown hK hB 27 (hX 20 (by decide)) cf_20 us7 (by decide) fl_7_81 (rfl) d7_shut_8 ?_
    refine lv_iconst (v := 2) hx hb d7_shut_11 (by decide) ?_
    refine lv_icmp_ne (tgt := 25) hx hb d7_shut_12 (by decide) (fun c_2 => ?_) (fun c_2 => ?_)
    · refine lv_aload_n hx hb d7_shut_25 rfl (lv_at hl 0 rfl) ?_
      refine lv_iconst (v := (-1)) hx hb d7_shut_26 (by decide) ?_
      refine sr_put hx hb hw hown hK hB 27 (hX 20 (by decide)) cf_20 us7 tk7 nm7 (by decide) fl_7_81 rfl rfl rfl rfl d7_shut_27 (fun H locs hB => ?_)
      refine lv_aload_n hx hb d7_shut_30 rfl (lv_at hl 0 rfl) ?_
      refine lv_aload_n hx hb d7_shut_31 rfl (lv_at hl 0 rfl) ?_
      refine sr_get (v := .int (S 20 0 0)) hx hb hw hown hK hB 0 (hX 20 (by decide)) cf_20 us7 (by decide) fl_7_100 (rfl) d7_shut_32 ?_
      refine sr_put hx hb hw hown hK hB 7 (hX 20 (by decide)) cf_20 us7 tk7 nm7 (by decide) fl_7_114 rfl rfl rfl rfl d7_shut_35 (fun H locs hB => ?_)
      refine lv_aload_n hx hb d7_shut_38 rfl (lv_at hl 0 rfl) ?_
      refine sr_get (v := .int (S 20 0 0)) hx hb hw hown hK hB 0 (hX 20 (by decide)) cf_20 us7 (by decide) fl_7_100 (rfl) d7_shut_39 ?_
      refine lv_aload_n hx hb d7_shut_42 rfl (lv_at hl 0 rfl) ?_
      refine sr_get (v := .int (S 20 0 30)) hx hb hw hown hK hB 30 (hX 20 (by decide)) cf_20 us7 (by decide) fl_7_156 (rfl) d7_shut_43 ?_
      refine lv_isub hx hb d7_shut_46 ?_
      exact se_i C0 hB (by rw [if_neg c_1, if_neg c_2] at hO; exact hO) d7_shut_47
    · refine lv_aload_n hx hb d7_shut_15 rfl (lv_at hl 0 rfl) ?_
      refine sr_get (v := .int (S 20 0 32)) hx hb hw hown hK hB 32 (hX 20 (by decide)) cf_20 us7 (by decide) fl_7_163 (rfl) d7_shut_16 ?_
      refine lv_if_ne (tgt := 25) hx hb d7_shut_19 (by decide) (fun c_3 => ?_) (fun c_3 => ?_)
      · refine lv_aload_n hx hb d7_shut_25 rfl (lv_at hl 0 rfl) ?_
        refine lv_iconst (v := (-1)) hx hb d7_shut_26 (by decide) ?_
        refine sr_put hx hb hw hown hK hB 27 (hX 20 (by decide)) cf_20 us7 tk7 nm7 (by decide) fl_7_81 rfl rfl rfl rfl d7_shut_27 (fun H locs hB => ?_)
        refine lv_aload_n hx hb d7_shut_30 rfl (lv_at hl 0 rfl) ?_
        refine lv_aload_n hx hb d7_shut_31 rfl (lv_at hl 0 rfl) ?_
        refine sr_get (v := .int (S 20 0 0)) hx hb hw hown hK hB 0 (hX 20 (by decide)) cf_20 us7 (by decide) fl_7_100 (rfl) d7_shut_32 ?_
        refine sr_put hx hb hw hown hK hB 7 (hX 20 (by decide)) cf_20 us7 tk7 nm7 (by decide) fl_7_114 rfl rfl rfl rfl d7_shut_35 (fun H locs hB => ?_)
        refine lv_aload_n hx hb d7_shut_38 rfl (lv_at hl 0 rfl) ?_
        refine sr_get (v := .int (S 20 0 0)) hx hb hw hown hK hB 0 (hX 20 (by decide)) cf_20 us7 (by decide) fl_7_100 (rfl) d7_shut_39 ?_
        refine lv_aload_n hx hb d7_shut_42 rfl (lv_at hl 0 rfl) ?_
        refine sr_get (v := .int (S 20 0 30)) hx hb hw hown hK hB 30 (hX 20 (by decide)) cf_20 us7 (by decide) fl_7_156 (rfl) d7_shut_43 ?_
        refine lv_isub hx hb d7_shut_46 ?_
        exact se_i C0 hB (by rw [if_neg c_1, if_pos c_2, if_neg c_3] at hO; exact hO) d7_shut_47
      · refine lv_bipush (v := (-4)) hx hb d7_shut_22 (by decide) ?_
        exact se_i C0 hB (by rw [if_neg c_1, if_pos c_2, if_pos c_3] at hO; exact hO) d7_shut_24
theorem hd7_shut : y7_shut.cls = R7 ∧ y7_shut.cls ≠ "java/lang/invoke/MethodHandle" ∧ y7_shut.cls ≠ "java/lang/invoke/VarHandle" ∧ (parseMethodDescriptor y7_shut.desc).map (fun d => d.parameters.length) = some 0 := ⟨rfl, by decide, by decide, by decide +kernel⟩
theorem m7_shut {l : Launch} {D : va_G} {aC : Nat → ClassId} {ad : Nat → Nat → Nat} {X : Nat → Nat → Prop} {S A : sS} {G : sG} (hX : xR X)   : Met l y7_shut (.code y7_shut b7_shut 1 (some .int) :: wall) (rmk 0) (s_Pc [.ref (ad 20 0)] D aC ad X S A G) (s_Qi D aC ad X G (O7_shut S A G )) 0 0 (s_N ad X) :=
  s_met (by decide) rfl (Nat.le_of_ble_eq_true rfl) (fun p e s m args below meth c C0 hB ls hl => k7_shut_0 C0 hB hX   hl rfl)

def V7_isWanted (S A : sS) (G : sG) (x1 : Int32) : Int32 := if A 31 0 (x1.toNatClampNeg) = 0 then 0 else if A 33 0 (x1.toNatClampNeg) ≤ V7_stockOf S A G x1 then 0 else 1
set_option maxRecDepth 100000 in
set_option maxHeartbeats 4000000 in
theorem k7_isWanted_0 {p : Program} {l : Launch} {e : Env} {s : State} {m : MethodId} {args : Array Value} {below : List Frame} {meth : Method} {c : Code} {D : va_G} {aC : Nat → ClassId} {ad : Nat → Nat → Nat} {X : Nat → Nat → Prop} {S A : sS} {G : sG} (C0 : s_C p s m args meth c b7_isWanted 2 R7 (some .boolean) D aC) (hB : s_B D aC ad X (s_N ad X) S A G s.heap s.heap []) (hX : xR X) (x1 : Int32) (hlo : ∀ i, i < 64 → 0 ≤ (A 36 0 i).toInt ∧ (A 36 0 i).toInt ≤ 6) (hx1 : 0 ≤ x1.toInt ∧ x1.toInt < 32) {ls : Array Slot} (hl : lv_has ls 2 [(0, .ref (ad 20 0)), (1, .int x1)]) {o : Int32} (hO : V7_isWanted S A G x1 = o) : W p l e (rmk 2) s m args below meth c s.heap [] 0 0 (MQ below (s_Qp o) args s 0 0 (fun _ => False)) (F0 m 0 ls []) := by
  obtain ⟨hx, hb, hml, hown, hw, hK, hr, hlocks⟩ := id C0
  unfold V7_isWanted at hO
  refine lv_aload_n hx hb d7_isWanted_0 rfl (lv_at hl 0 rfl) ?_
  refine sr_get (v := .ref (ad 31 0)) hx hb hw hown hK hB 10 (hX 20 (by decide)) cf_20 us7 (by decide) fl_7_33 (rfl) d7_isWanted_1 ?_
  refine lv_iload_n hx hb d7_isWanted_4 rfl (lv_at hl 1 rfl) ?_
  refine sr_zald (v := A 31 0 (x1.toNatClampNeg)) hx hb hK hB (hX 31 (by decide)) rfl rfl (by (refine vp_in_iff.mpr ?_); (show 0 ≤ x1.toInt ∧ x1.toInt < ((32 : Nat) : Int));  omega) d7_isWanted_5 (rfl) ?_
  refine lv_if_eq (tgt := 27) hx hb d7_isWanted_6 (by decide) (fun c_1 => ?_) (fun c_1 => ?_)
  · refine lv_iconst (v := 0) hx hb d7_isWanted_27 (by decide) ?_
    exact se_pz C0 (Or.inl rfl) (by rw [if_pos c_1] at hO; exact hO) d7_isWanted_28
  · refine lv_aload_n hx hb d7_isWanted_9 rfl (lv_at hl 0 rfl) ?_
    refine lv_iload_n hx hb d7_isWanted_10 rfl (lv_at hl 1 rfl) ?_
    refine sr_vp C0 hB (m7_stockOf hX x1 (by  first | assumption | omega)) (hX 20 (by decide)) cf_20 ml_7_191 im_7_stockOf se_7_stockOf in_7 cd_7_stockOf hd7_stockOf ⟨⟨rfl, rfl⟩, by decide, by decide⟩ ⟨Nat.zero_le _, Nat.zero_le _⟩ hl.1 rfl (Nat.le_of_ble_eq_true rfl) d7_isWanted_11 ?_
    refine lv_aload_n hx hb d7_isWanted_14 rfl (lv_at hl 0 rfl) ?_
    refine sr_get (v := .ref (ad 33 0)) hx hb hw hown hK hB 12 (hX 20 (by decide)) cf_20 us7 (by decide) fl_7_39 (rfl) d7_isWanted_15 ?_
    refine lv_iload_n hx hb d7_isWanted_18 rfl (lv_at hl 1 rfl) ?_
    refine sr_iald (v := A 33 0 (x1.toNatClampNeg)) hx hb hK hB (hX 33 (by decide)) rfl rfl (by (refine vp_in_iff.mpr ?_); (show 0 ≤ x1.toInt ∧ x1.toInt < ((32 : Nat) : Int));  omega) d7_isWanted_19 (rfl) ?_
    refine lv_icmp_ge (tgt := 27) hx hb d7_isWanted_20 (by decide) (fun c_2 => ?_) (fun c_2 => ?_)
    · refine lv_iconst (v := 0) hx hb d7_isWanted_27 (by decide) ?_
      exact se_pz C0 (Or.inl rfl) (by rw [if_neg c_1, if_pos c_2] at hO; exact hO) d7_isWanted_28
    · refine lv_iconst (v := 1) hx hb d7_isWanted_23 (by decide) ?_
      refine lv_goto (tgt := 28) hx hb d7_isWanted_24 (by decide) ?_
      exact se_pz C0 (Or.inr rfl) (by rw [if_neg c_1, if_neg c_2] at hO; exact hO) d7_isWanted_28
theorem z7_isWanted (S A : sS) (G : sG) (x1 : Int32) : V7_isWanted S A G x1 = 0 ∨ V7_isWanted S A G x1 = 1 := by
  unfold V7_isWanted
  (repeat' split) <;> first | exact Or.inl rfl | exact Or.inr rfl | apply z7_stockOf
theorem hd7_isWanted : y7_isWanted.cls = R7 ∧ y7_isWanted.cls ≠ "java/lang/invoke/MethodHandle" ∧ y7_isWanted.cls ≠ "java/lang/invoke/VarHandle" ∧ (parseMethodDescriptor y7_isWanted.desc).map (fun d => d.parameters.length) = some 1 := ⟨rfl, by decide, by decide, by decide +kernel⟩
theorem m7_isWanted {l : Launch} {D : va_G} {aC : Nat → ClassId} {ad : Nat → Nat → Nat} {X : Nat → Nat → Prop} {S A : sS} {G : sG} (hX : xR X) (x1 : Int32) (hlo : ∀ i, i < 64 → 0 ≤ (A 36 0 i).toInt ∧ (A 36 0 i).toInt ≤ 6) (hx1 : 0 ≤ x1.toInt ∧ x1.toInt < 32) : Met l y7_isWanted (.code y7_isWanted b7_isWanted 2 (some .boolean) :: wall) (rmk 2) (s_Pc [.ref (ad 20 0), .int x1] D aC ad X S A G) (s_Qp (V7_isWanted S A G x1)) 0 0 (fun _ => False) :=
  s_met (by decide) rfl (Nat.le_of_ble_eq_true rfl) (fun p e s m args below meth c C0 hB ls hl => k7_isWanted_0 C0 hB hX x1 hlo hx1 hl rfl)

def V7_stock (S A : sS) (G : sG) (x1 : Int32) (x2 : Int32) : Int32 := if V7_hasItem S A G x1 = 0 then (-1) else if V7_in S A G x2 0 2 = 0 then (-1) else if x2 = 0 then V7_stockOf S A G x1 else if x2 = 2 then A 34 0 (x1.toNatClampNeg) else if A 33 0 (x1.toNatClampNeg) ≤ V7_stockOf S A G x1 then 0 else (A 33 0 (x1.toNatClampNeg)) - (V7_stockOf S A G x1)
set_option maxRecDepth 100000 in
set_option maxHeartbeats 4000000 in
theorem k7_stock_0 {p : Program} {l : Launch} {e : Env} {s : State} {m : MethodId} {args : Array Value} {below : List Frame} {meth : Method} {c : Code} {D : va_G} {aC : Nat → ClassId} {ad : Nat → Nat → Nat} {X : Nat → Nat → Prop} {S A : sS} {G : sG} (C0 : s_C p s m args meth c b7_stock 4 R7 (some .int) D aC) (hB : s_B D aC ad X (s_N ad X) S A G s.heap s.heap []) (hX : xR X) (x1 : Int32) (x2 : Int32) (hlo : ∀ i, i < 64 → 0 ≤ (A 36 0 i).toInt ∧ (A 36 0 i).toInt ≤ 6) {ls : Array Slot} (hl : lv_has ls 4 [(0, .ref (ad 20 0)), (1, .int x1), (2, .int x2)]) {o : Int32} (hO : V7_stock S A G x1 x2 = o) : W p l e (rmk 2) s m args below meth c s.heap [] 0 0 (MQ below (s_Qp o) args s 0 0 (fun _ => False)) (F0 m 0 ls []) := by
  obtain ⟨hx, hb, hml, hown, hw, hK, hr, hlocks⟩ := id C0
  unfold V7_stock at hO
  refine lv_aload_n hx hb d7_stock_0 rfl (lv_at hl 0 rfl) ?_
  refine lv_iload_n hx hb d7_stock_1 rfl (lv_at hl 1 rfl) ?_
  refine sr_vp C0 hB (m7_hasItem hX x1 ) (hX 20 (by decide)) cf_20 ml_7_117 im_7_hasItem se_7_hasItem in_7 cd_7_hasItem hd7_hasItem ⟨⟨rfl, rfl⟩, by decide, by decide⟩ ⟨Nat.zero_le _, Nat.zero_le _⟩ hl.1 rfl (Nat.le_of_ble_eq_true rfl) d7_stock_2 ?_
  refine lv_if_eq (tgt := 17) hx hb d7_stock_5 (by decide) (fun c_1 => ?_) (fun c_1 => ?_)
  · refine lv_iconst (v := (-1)) hx hb d7_stock_17 (by decide) ?_
    exact se_pi C0 (by rw [if_pos c_1] at hO; exact hO) d7_stock_18
  · refine lv_iload_n hx hb d7_stock_8 rfl (lv_at hl 2 rfl) ?_
    refine lv_iconst (v := 0) hx hb d7_stock_9 (by decide) ?_
    refine lv_iconst (v := 2) hx hb d7_stock_10 (by decide) ?_
    refine sr_sp C0 hB (m7_in hX x2 0 2 ) ml_7_93 st_7_in in_7 cd_7_in hd7_in ⟨⟨rfl, rfl⟩, by decide, by decide⟩ ⟨Nat.zero_le _, Nat.zero_le _⟩ hl.1 rfl (Nat.le_of_ble_eq_true rfl) d7_stock_11 ?_
    refine lv_if_ne (tgt := 19) hx hb d7_stock_14 (by decide) (fun c_2 => ?_) (fun c_2 => ?_)
    · refine lv_aload_n hx hb d7_stock_19 rfl (lv_at hl 0 rfl) ?_
      refine lv_iload_n hx hb d7_stock_20 rfl (lv_at hl 1 rfl) ?_
      refine sr_vp C0 hB (m7_stockOf hX x1 (by (have kc_1 := hasItem_t c_1);  first | assumption | omega)) (hX 20 (by decide)) cf_20 ml_7_191 im_7_stockOf se_7_stockOf in_7 cd_7_stockOf hd7_stockOf ⟨⟨rfl, rfl⟩, by decide, by decide⟩ ⟨Nat.zero_le _, Nat.zero_le _⟩ hl.1 rfl (Nat.le_of_ble_eq_true rfl) d7_stock_21 ?_
      refine lv_istore_n (lv' := [(3, .int (V7_stockOf S A G x1)), (0, .ref (ad 20 0)), (1, .int x1), (2, .int x2)]) hx hb d7_stock_24 rfl hl (by decide) rfl (fun ls hl => ?_)
      refine lv_iload_n hx hb d7_stock_25 rfl (lv_at hl 3 rfl) ?_
      refine lv_if_ne (tgt := 33) hx hb d7_stock_26 (by decide) (fun c_3 => ?_) (fun c_3 => ?_)
      · refine lv_iload_n hx hb d7_stock_33 rfl (lv_at hl 3 rfl) ?_
        refine lv_iconst (v := 2) hx hb d7_stock_34 (by decide) ?_
        refine lv_icmp_ne (tgt := 47) hx hb d7_stock_35 (by decide) (fun c_4 => ?_) (fun c_4 => ?_)
        · refine lv_iload_n hx hb d7_stock_47 rfl (lv_at hl 0 rfl) ?_
          refine lv_aload_n hx hb d7_stock_48 rfl (lv_at hl 1 rfl) ?_
          refine sr_get (v := .ref (ad 33 0)) hx hb hw hown hK hB 12 (hX 20 (by decide)) cf_20 us7 (by decide) fl_7_39 (rfl) d7_stock_49 ?_
          refine lv_iload_n hx hb d7_stock_52 rfl (lv_at hl 2 rfl) ?_
          refine sr_iald (v := A 33 0 (x1.toNatClampNeg)) hx hb hK hB (hX 33 (by decide)) rfl rfl (by (refine vp_in_iff.mpr ?_); (show 0 ≤ x1.toInt ∧ x1.toInt < ((32 : Nat) : Int)); (have kc_1 := hasItem_t c_1);  omega) d7_stock_53 (rfl) ?_
          refine lv_icmp_ge (tgt := 68) hx hb d7_stock_54 (by decide) (fun c_5 => ?_) (fun c_5 => ?_)
          · refine lv_iconst (v := 0) hx hb d7_stock_68 (by decide) ?_
            exact se_pi C0 (by rw [if_neg c_1, if_neg c_2, if_neg c_3, if_neg c_4, if_pos c_5] at hO; exact hO) d7_stock_69
          · refine lv_aload_n hx hb d7_stock_57 rfl (lv_at hl 1 rfl) ?_
            refine sr_get (v := .ref (ad 33 0)) hx hb hw hown hK hB 12 (hX 20 (by decide)) cf_20 us7 (by decide) fl_7_39 (rfl) d7_stock_58 ?_
            refine lv_iload_n hx hb d7_stock_61 rfl (lv_at hl 2 rfl) ?_
            refine sr_iald (v := A 33 0 (x1.toNatClampNeg)) hx hb hK hB (hX 33 (by decide)) rfl rfl (by (refine vp_in_iff.mpr ?_); (show 0 ≤ x1.toInt ∧ x1.toInt < ((32 : Nat) : Int)); (have kc_1 := hasItem_t c_1);  omega) d7_stock_62 (rfl) ?_
            refine lv_iload_n hx hb d7_stock_63 rfl (lv_at hl 0 rfl) ?_
            refine lv_isub hx hb d7_stock_64 ?_
            refine lv_goto (tgt := 69) hx hb d7_stock_65 (by decide) ?_
            exact se_pi C0 (by rw [if_neg c_1, if_neg c_2, if_neg c_3, if_neg c_4, if_neg c_5] at hO; exact hO) d7_stock_69
        · refine lv_aload_n hx hb d7_stock_38 rfl (lv_at hl 1 rfl) ?_
          refine sr_get (v := .ref (ad 34 0)) hx hb hw hown hK hB 13 (hX 20 (by decide)) cf_20 us7 (by decide) fl_7_42 (rfl) d7_stock_39 ?_
          refine lv_iload_n hx hb d7_stock_42 rfl (lv_at hl 2 rfl) ?_
          refine sr_iald (v := A 34 0 (x1.toNatClampNeg)) hx hb hK hB (hX 34 (by decide)) rfl rfl (by (refine vp_in_iff.mpr ?_); (show 0 ≤ x1.toInt ∧ x1.toInt < ((32 : Nat) : Int)); (have kc_1 := hasItem_t c_1);  omega) d7_stock_43 (rfl) ?_
          refine lv_goto (tgt := 69) hx hb d7_stock_44 (by decide) ?_
          exact se_pi C0 (by rw [if_neg c_1, if_neg c_2, if_neg c_3, if_pos c_4] at hO; exact hO) d7_stock_69
      · refine lv_iload_n hx hb d7_stock_29 rfl (lv_at hl 0 rfl) ?_
        refine lv_goto (tgt := 69) hx hb d7_stock_30 (by decide) ?_
        exact se_pi C0 (by rw [if_neg c_1, if_neg c_2, if_pos c_3] at hO; exact hO) d7_stock_69
    · refine lv_iconst (v := (-1)) hx hb d7_stock_17 (by decide) ?_
      exact se_pi C0 (by rw [if_neg c_1, if_pos c_2] at hO; exact hO) d7_stock_18
theorem hd7_stock : y7_stock.cls = R7 ∧ y7_stock.cls ≠ "java/lang/invoke/MethodHandle" ∧ y7_stock.cls ≠ "java/lang/invoke/VarHandle" ∧ (parseMethodDescriptor y7_stock.desc).map (fun d => d.parameters.length) = some 2 := ⟨rfl, by decide, by decide, by decide +kernel⟩
theorem m7_stock {l : Launch} {D : va_G} {aC : Nat → ClassId} {ad : Nat → Nat → Nat} {X : Nat → Nat → Prop} {S A : sS} {G : sG} (hX : xR X) (x1 : Int32) (x2 : Int32) (hlo : ∀ i, i < 64 → 0 ≤ (A 36 0 i).toInt ∧ (A 36 0 i).toInt ≤ 6) : Met l y7_stock (.code y7_stock b7_stock 4 (some .int) :: wall) (rmk 2) (s_Pc [.ref (ad 20 0), .int x1, .int x2] D aC ad X S A G) (s_Qp (V7_stock S A G x1 x2)) 0 0 (fun _ => False) :=
  s_met (by decide) rfl (Nat.le_of_ble_eq_true rfl) (fun p e s m args below meth c C0 hB ls hl => k7_stock_0 C0 hB hX x1 x2 hlo hl rfl)

def V7_orderTold (S A : sS) (G : sG) (x1 : Int32) (x2 : Int32) : Int32 := if V7_hasOrder S A G x1 = 0 then (-1) else if V7_in S A G x2 0 2 = 0 then (-1) else if x2 = 0 then A 42 0 (x1.toNatClampNeg) else if x2 = 1 then A 43 0 (x1.toNatClampNeg) else if V7_isOpen S A G x1 = 0 then 0 else 1
set_option maxRecDepth 100000 in
set_option maxHeartbeats 4000000 in
theorem k7_orderTold_0 {p : Program} {l : Launch} {e : Env} {s : State} {m : MethodId} {args : Array Value} {below : List Frame} {meth : Method} {c : Code} {D : va_G} {aC : Nat → ClassId} {ad : Nat → Nat → Nat} {X : Nat → Nat → Prop} {S A : sS} {G : sG} (C0 : s_C p s m args meth c b7_orderTold 3 R7 (some .int) D aC) (hB : s_B D aC ad X (s_N ad X) S A G s.heap s.heap []) (hX : xR X) (x1 : Int32) (x2 : Int32) (hord : 0 ≤ (S 20 0 20).toInt ∧ (S 20 0 20).toInt ≤ 60) {ls : Array Slot} (hl : lv_has ls 3 [(0, .ref (ad 20 0)), (1, .int x1), (2, .int x2)]) {o : Int32} (hO : V7_orderTold S A G x1 x2 = o) : W p l e (rmk 2) s m args below meth c s.heap [] 0 0 (MQ below (s_Qp o) args s 0 0 (fun _ => False)) (F0 m 0 ls []) := by
  obtain ⟨hx, hb, hml, hown, hw, hK, hr, hlocks⟩ := id C0
  unfold V7_orderTold at hO
  refine lv_aload_n hx hb d7_orderTold_0 rfl (lv_at hl 0 rfl) ?_
  refine lv_iload_n hx hb d7_orderTold_1 rfl (lv_at hl 1 rfl) ?_
  refine sr_vp C0 hB (m7_hasOrder hX x1 ) (hX 20 (by decide)) cf_20 ml_7_121 im_7_hasOrder se_7_hasOrder in_7 cd_7_hasOrder hd7_hasOrder ⟨⟨rfl, rfl⟩, by decide, by decide⟩ ⟨Nat.zero_le _, Nat.zero_le _⟩ hl.1 rfl (Nat.le_of_ble_eq_true rfl) d7_orderTold_2 ?_
  refine lv_if_eq (tgt := 17) hx hb d7_orderTold_5 (by decide) (fun c_1 => ?_) (fun c_1 => ?_)
  · refine lv_iconst (v := (-1)) hx hb d7_orderTold_17 (by decide) ?_
    exact se_pi C0 (by rw [if_pos c_1] at hO; exact hO) d7_orderTold_18
  · refine lv_iload_n hx hb d7_orderTold_8 rfl (lv_at hl 2 rfl) ?_
    refine lv_iconst (v := 0) hx hb d7_orderTold_9 (by decide) ?_
    refine lv_iconst (v := 2) hx hb d7_orderTold_10 (by decide) ?_
    refine sr_sp C0 hB (m7_in hX x2 0 2 ) ml_7_93 st_7_in in_7 cd_7_in hd7_in ⟨⟨rfl, rfl⟩, by decide, by decide⟩ ⟨Nat.zero_le _, Nat.zero_le _⟩ hl.1 rfl (Nat.le_of_ble_eq_true rfl) d7_orderTold_11 ?_
    refine lv_if_ne (tgt := 19) hx hb d7_orderTold_14 (by decide) (fun c_2 => ?_) (fun c_2 => ?_)
    · refine lv_iload_n hx hb d7_orderTold_19 rfl (lv_at hl 2 rfl) ?_
      refine lv_if_ne (tgt := 32) hx hb d7_orderTold_20 (by decide) (fun c_3 => ?_) (fun c_3 => ?_)
      · refine lv_iload_n hx hb d7_orderTold_32 rfl (lv_at hl 2 rfl) ?_
        refine lv_iconst (v := 1) hx hb d7_orderTold_33 (by decide) ?_
        refine lv_icmp_ne (tgt := 46) hx hb d7_orderTold_34 (by decide) (fun c_4 => ?_) (fun c_4 => ?_)
        · refine lv_aload_n hx hb d7_orderTold_46 rfl (lv_at hl 0 rfl) ?_
          refine lv_iload_n hx hb d7_orderTold_47 rfl (lv_at hl 1 rfl) ?_
          refine sr_vp C0 hB (m7_isOpen hX x1 (by (have a1 := sub1_i (x := S 20 0 20) (by omega)); (have kc_1 := hasOrder_t c_1);  first | assumption | omega)) (hX 20 (by decide)) cf_20 ml_7_127 im_7_isOpen se_7_isOpen in_7 cd_7_isOpen hd7_isOpen ⟨⟨rfl, rfl⟩, by decide, by decide⟩ ⟨Nat.zero_le _, Nat.zero_le _⟩ hl.1 rfl (Nat.le_of_ble_eq_true rfl) d7_orderTold_48 ?_
          refine lv_if_eq (tgt := 58) hx hb d7_orderTold_51 (by decide) (fun c_5 => ?_) (fun c_5 => ?_)
          · refine lv_iconst (v := 0) hx hb d7_orderTold_58 (by decide) ?_
            exact se_pi C0 (by rw [if_neg c_1, if_neg c_2, if_neg c_3, if_neg c_4, if_pos c_5] at hO; exact hO) d7_orderTold_59
          · refine lv_iconst (v := 1) hx hb d7_orderTold_54 (by decide) ?_
            refine lv_goto (tgt := 59) hx hb d7_orderTold_55 (by decide) ?_
            exact se_pi C0 (by rw [if_neg c_1, if_neg c_2, if_neg c_3, if_neg c_4, if_neg c_5] at hO; exact hO) d7_orderTold_59
        · refine lv_aload_n hx hb d7_orderTold_37 rfl (lv_at hl 0 rfl) ?_
          refine sr_get (v := .ref (ad 43 0)) hx hb hw hown hK hB 22 (hX 20 (by decide)) cf_20 us7 (by decide) fl_7_66 (rfl) d7_orderTold_38 ?_
          refine lv_iload_n hx hb d7_orderTold_41 rfl (lv_at hl 1 rfl) ?_
          refine sr_iald (v := A 43 0 (x1.toNatClampNeg)) hx hb hK hB (hX 43 (by decide)) rfl rfl (by (refine vp_in_iff.mpr ?_); (show 0 ≤ x1.toInt ∧ x1.toInt < ((60 : Nat) : Int)); (have a1 := sub1_i (x := S 20 0 20) (by omega)); (have kc_1 := hasOrder_t c_1);  omega) d7_orderTold_42 (rfl) ?_
          refine lv_goto (tgt := 59) hx hb d7_orderTold_43 (by decide) ?_
          exact se_pi C0 (by rw [if_neg c_1, if_neg c_2, if_neg c_3, if_pos c_4] at hO; exact hO) d7_orderTold_59
      · refine lv_aload_n hx hb d7_orderTold_23 rfl (lv_at hl 0 rfl) ?_
        refine sr_get (v := .ref (ad 42 0)) hx hb hw hown hK hB 21 (hX 20 (by decide)) cf_20 us7 (by decide) fl_7_63 (rfl) d7_orderTold_24 ?_
        refine lv_iload_n hx hb d7_orderTold_27 rfl (lv_at hl 1 rfl) ?_
        refine sr_iald (v := A 42 0 (x1.toNatClampNeg)) hx hb hK hB (hX 42 (by decide)) rfl rfl (by (refine vp_in_iff.mpr ?_); (show 0 ≤ x1.toInt ∧ x1.toInt < ((60 : Nat) : Int)); (have a1 := sub1_i (x := S 20 0 20) (by omega)); (have kc_1 := hasOrder_t c_1);  omega) d7_orderTold_28 (rfl) ?_
        refine lv_goto (tgt := 59) hx hb d7_orderTold_29 (by decide) ?_
        exact se_pi C0 (by rw [if_neg c_1, if_neg c_2, if_pos c_3] at hO; exact hO) d7_orderTold_59
    · refine lv_iconst (v := (-1)) hx hb d7_orderTold_17 (by decide) ?_
      exact se_pi C0 (by rw [if_neg c_1, if_pos c_2] at hO; exact hO) d7_orderTold_18
theorem hd7_orderTold : y7_orderTold.cls = R7 ∧ y7_orderTold.cls ≠ "java/lang/invoke/MethodHandle" ∧ y7_orderTold.cls ≠ "java/lang/invoke/VarHandle" ∧ (parseMethodDescriptor y7_orderTold.desc).map (fun d => d.parameters.length) = some 2 := ⟨rfl, by decide, by decide, by decide +kernel⟩
theorem m7_orderTold {l : Launch} {D : va_G} {aC : Nat → ClassId} {ad : Nat → Nat → Nat} {X : Nat → Nat → Prop} {S A : sS} {G : sG} (hX : xR X) (x1 : Int32) (x2 : Int32) (hord : 0 ≤ (S 20 0 20).toInt ∧ (S 20 0 20).toInt ≤ 60) : Met l y7_orderTold (.code y7_orderTold b7_orderTold 3 (some .int) :: wall) (rmk 2) (s_Pc [.ref (ad 20 0), .int x1, .int x2] D aC ad X S A G) (s_Qp (V7_orderTold S A G x1 x2)) 0 0 (fun _ => False) :=
  s_met (by decide) rfl (Nat.le_of_ble_eq_true rfl) (fun p e s m args below meth c C0 hB ls hl => k7_orderTold_0 C0 hB hX x1 x2 hord hl rfl)

def V7_entry (S A : sS) (G : sG) (x1 : Int32) (x2 : Int32) : Int32 := if V7_in S A G x1 0 ((S 20 0 34) - 1) = 0 then (-1) else if V7_in S A G x2 0 5 = 0 then (-1) else if V7_wholeCopies S A G  = 0 then (-8) else A 56 0 (((6 * x1) + x2).toNatClampNeg)
set_option maxRecDepth 100000 in
set_option maxHeartbeats 4000000 in
theorem k7_entry_0 {p : Program} {l : Launch} {e : Env} {s : State} {m : MethodId} {args : Array Value} {below : List Frame} {meth : Method} {c : Code} {D : va_G} {aC : Nat → ClassId} {ad : Nat → Nat → Nat} {X : Nat → Nat → Prop} {S A : sS} {G : sG} (C0 : s_C p s m args meth c b7_entry 3 R7 (some .int) D aC) (hB : s_B D aC ad X (s_N ad X) S A G s.heap s.heap []) (hX : xR X) (x1 : Int32) (x2 : Int32) (hen : 0 ≤ (S 20 0 34).toInt ∧ (S 20 0 34).toInt ≤ 300) {ls : Array Slot} (hl : lv_has ls 3 [(0, .ref (ad 20 0)), (1, .int x1), (2, .int x2)]) {o : Int32} (hO : V7_entry S A G x1 x2 = o) : W p l e (rmk 1) s m args below meth c s.heap [] 0 0 (MQ below (s_Qp o) args s 0 0 (fun _ => False)) (F0 m 0 ls []) := by
  obtain ⟨hx, hb, hml, hown, hw, hK, hr, hlocks⟩ := id C0
  unfold V7_entry at hO
  refine lv_iload_n hx hb d7_entry_0 rfl (lv_at hl 1 rfl) ?_
  refine lv_iconst (v := 0) hx hb d7_entry_1 (by decide) ?_
  refine lv_aload_n hx hb d7_entry_2 rfl (lv_at hl 0 rfl) ?_
  refine sr_get (v := .int (S 20 0 34)) hx hb hw hown hK hB 34 (hX 20 (by decide)) cf_20 us7 (by decide) fl_7_130 (rfl) d7_entry_3 ?_
  refine lv_iconst (v := 1) hx hb d7_entry_6 (by decide) ?_
  refine lv_isub hx hb d7_entry_7 ?_
  refine sr_sp C0 hB (m7_in hX x1 0 ((S 20 0 34) - 1) ) ml_7_93 st_7_in in_7 cd_7_in hd7_in ⟨⟨rfl, rfl⟩, by decide, by decide⟩ ⟨Nat.zero_le _, Nat.zero_le _⟩ hl.1 rfl (Nat.le_of_ble_eq_true rfl) d7_entry_8 ?_
  refine lv_if_eq (tgt := 23) hx hb d7_entry_11 (by decide) (fun c_1 => ?_) (fun c_1 => ?_)
  · refine lv_iconst (v := (-1)) hx hb d7_entry_23 (by decide) ?_
    exact se_pi C0 (by rw [if_pos c_1] at hO; exact hO) d7_entry_24
  · refine lv_iload_n hx hb d7_entry_14 rfl (lv_at hl 2 rfl) ?_
    refine lv_iconst (v := 0) hx hb d7_entry_15 (by decide) ?_
    refine lv_iconst (v := 5) hx hb d7_entry_16 (by decide) ?_
    refine sr_sp C0 hB (m7_in hX x2 0 5 ) ml_7_93 st_7_in in_7 cd_7_in hd7_in ⟨⟨rfl, rfl⟩, by decide, by decide⟩ ⟨Nat.zero_le _, Nat.zero_le _⟩ hl.1 rfl (Nat.le_of_ble_eq_true rfl) d7_entry_17 ?_
    refine lv_if_ne (tgt := 25) hx hb d7_entry_20 (by decide) (fun c_2 => ?_) (fun c_2 => ?_)
    · refine lv_aload_n hx hb d7_entry_25 rfl (lv_at hl 0 rfl) ?_
      refine sr_vp C0 hB (m7_wholeCopies hX  ) (hX 20 (by decide)) cf_20 ml_7_197 im_7_wholeCopies se_7_wholeCopies in_7 cd_7_wholeCopies hd7_wholeCopies ⟨⟨rfl, rfl⟩, by decide, by decide⟩ ⟨Nat.zero_le _, Nat.zero_le _⟩ hl.1 rfl (Nat.le_of_ble_eq_true rfl) d7_entry_26 ?_
      refine lv_if_ne (tgt := 37) hx hb d7_entry_29 (by decide) (fun c_3 => ?_) (fun c_3 => ?_)
      · refine lv_aload_n hx hb d7_entry_37 rfl (lv_at hl 0 rfl) ?_
        refine sr_get (v := .ref (ad 56 0)) hx hb hw hown hK hB 35 (hX 20 (by decide)) cf_20 us7 (by decide) fl_7_84 (rfl) d7_entry_38 ?_
        refine lv_bipush (v := 6) hx hb d7_entry_41 (by decide) ?_
        refine lv_iload_n hx hb d7_entry_43 rfl (lv_at hl 1 rfl) ?_
        refine lv_imul hx hb d7_entry_44 ?_
        refine lv_iload_n hx hb d7_entry_45 rfl (lv_at hl 2 rfl) ?_
        refine lv_iadd hx hb d7_entry_46 ?_
        refine sr_iald (v := A 56 0 (((6 * x1) + x2).toNatClampNeg)) hx hb hK hB (hX 56 (by decide)) rfl rfl (by (refine vp_in_iff.mpr ?_); (show 0 ≤ ((6 * x1) + x2).toInt ∧ ((6 * x1) + x2).toInt < ((1800 : Nat) : Int)); (have a1 := sub1_i (x := S 20 0 34) (by omega)); (have kc_1 := in_t c_1); (have kc_2 := in_t c_2); (have l0 : (0 : Int32).toInt = 0 := rfl); (have l1 : (1 : Int32).toInt = 1 := rfl); (have l20 : (20 : Int32).toInt = 20 := rfl); (have l34 : (34 : Int32).toInt = 34 := rfl); (have l5 : (5 : Int32).toInt = 5 := rfl); (have b1 := mul6_i (x := x1) (by omega) (by omega)); (have b2 := add_i (x := 6 * x1) (y := x2) (by omega) (by omega));  omega) d7_entry_47 (rfl) ?_
        exact se_pi C0 (by rw [if_neg c_1, if_neg c_2, if_neg c_3] at hO; exact hO) d7_entry_48
      · refine lv_bipush (v := (-8)) hx hb d7_entry_32 (by decide) ?_
        refine lv_goto (tgt := 48) hx hb d7_entry_34 (by decide) ?_
        exact se_pi C0 (by rw [if_neg c_1, if_neg c_2, if_pos c_3] at hO; exact hO) d7_entry_48
    · refine lv_iconst (v := (-1)) hx hb d7_entry_23 (by decide) ?_
      exact se_pi C0 (by rw [if_neg c_1, if_pos c_2] at hO; exact hO) d7_entry_24
theorem hd7_entry : y7_entry.cls = R7 ∧ y7_entry.cls ≠ "java/lang/invoke/MethodHandle" ∧ y7_entry.cls ≠ "java/lang/invoke/VarHandle" ∧ (parseMethodDescriptor y7_entry.desc).map (fun d => d.parameters.length) = some 2 := ⟨rfl, by decide, by decide, by decide +kernel⟩
theorem m7_entry {l : Launch} {D : va_G} {aC : Nat → ClassId} {ad : Nat → Nat → Nat} {X : Nat → Nat → Prop} {S A : sS} {G : sG} (hX : xR X) (x1 : Int32) (x2 : Int32) (hen : 0 ≤ (S 20 0 34).toInt ∧ (S 20 0 34).toInt ≤ 300) : Met l y7_entry (.code y7_entry b7_entry 3 (some .int) :: wall) (rmk 1) (s_Pc [.ref (ad 20 0), .int x1, .int x2] D aC ad X S A G) (s_Qp (V7_entry S A G x1 x2)) 0 0 (fun _ => False) :=
  s_met (by decide) rfl (Nat.le_of_ble_eq_true rfl) (fun p e s m args below meth c C0 hB ls hl => k7_entry_0 C0 hB hX x1 x2 hen hl rfl)

def V7_bin (S A : sS) (G : sG) (x1 : Int32) (x2 : Int32) : Int32 := if V7_hasBin S A G x1 = 0 then (-1) else if V7_in S A G x2 0 5 = 0 then (-1) else if x2 = 0 then A 35 0 (x1.toNatClampNeg) else if x2 = 1 then V7_bookOf S A G x1 else if x2 = 2 then V7_givableOf S A G x1 else if x2 = 3 then A 39 0 (x1.toNatClampNeg) else if x2 = 4 then A 36 0 (x1.toNatClampNeg) else if S 20 0 27 < 0 then 0 else if S 20 0 28 = x1 then 1 else 0
set_option maxRecDepth 100000 in
set_option maxHeartbeats 4000000 in
theorem k7_bin_0 {p : Program} {l : Launch} {e : Env} {s : State} {m : MethodId} {args : Array Value} {below : List Frame} {meth : Method} {c : Code} {D : va_G} {aC : Nat → ClassId} {ad : Nat → Nat → Nat} {X : Nat → Nat → Prop} {S A : sS} {G : sG} (C0 : s_C p s m args meth c b7_bin 3 R7 (some .int) D aC) (hB : s_B D aC ad X (s_N ad X) S A G s.heap s.heap []) (hX : xR X) (x1 : Int32) (x2 : Int32) (hlo : ∀ i, i < 64 → 0 ≤ (A 36 0 i).toInt ∧ (A 36 0 i).toInt ≤ 6) {ls : Array Slot} (hl : lv_has ls 3 [(0, .ref (ad 20 0)), (1, .int x1), (2, .int x2)]) {o : Int32} (hO : V7_bin S A G x1 x2 = o) : W p l e (rmk 2) s m args below meth c s.heap [] 0 0 (MQ below (s_Qp o) args s 0 0 (fun _ => False)) (F0 m 0 ls []) := by
  obtain ⟨hx, hb, hml, hown, hw, hK, hr, hlocks⟩ := id C0
  unfold V7_bin at hO
  refine lv_iload_n hx hb d7_bin_0 rfl (lv_at hl 1 rfl) ?_
  refine sr_sp C0 hB (m7_hasBin hX x1 ) ml_7_140 st_7_hasBin in_7 cd_7_hasBin hd7_hasBin ⟨⟨rfl, rfl⟩, by decide, by decide⟩ ⟨Nat.zero_le _, Nat.zero_le _⟩ hl.1 rfl (Nat.le_of_ble_eq_true rfl) d7_bin_1 ?_
  refine lv_if_eq (tgt := 16) hx hb d7_bin_4 (by decide) (fun c_1 => ?_) (fun c_1 => ?_)
  · refine lv_iconst (v := (-1)) hx hb d7_bin_16 (by decide) ?_
    exact se_pi C0 (by rw [if_pos c_1] at hO; exact hO) d7_bin_17
  · refine lv_iload_n hx hb d7_bin_7 rfl (lv_at hl 2 rfl) ?_
    refine lv_iconst (v := 0) hx hb d7_bin_8 (by decide) ?_
    refine lv_iconst (v := 5) hx hb d7_bin_9 (by decide) ?_
    refine sr_sp C0 hB (m7_in hX x2 0 5 ) ml_7_93 st_7_in in_7 cd_7_in hd7_in ⟨⟨rfl, rfl⟩, by decide, by decide⟩ ⟨Nat.zero_le _, Nat.zero_le _⟩ hl.1 rfl (Nat.le_of_ble_eq_true rfl) d7_bin_10 ?_
    refine lv_if_ne (tgt := 18) hx hb d7_bin_13 (by decide) (fun c_2 => ?_) (fun c_2 => ?_)
    · refine lv_iload_n hx hb d7_bin_18 rfl (lv_at hl 2 rfl) ?_
      by_cases c_3 : x2 = 0
      · refine lv_tableIn (tgt := 52) (off := 33) hx hb d7_bin_19 (by rw [c_3]; decide) (by rw [c_3]; decide) (by rw [c_3]; rfl) (by decide) ?_
        refine lv_aload_n hx hb d7_bin_52 rfl (lv_at hl 0 rfl) ?_
        refine sr_get (v := .ref (ad 35 0)) hx hb hw hown hK hB 14 (hX 20 (by decide)) cf_20 us7 (by decide) fl_7_45 (rfl) d7_bin_53 ?_
        refine lv_iload_n hx hb d7_bin_56 rfl (lv_at hl 1 rfl) ?_
        refine sr_iald (v := A 35 0 (x1.toNatClampNeg)) hx hb hK hB (hX 35 (by decide)) rfl rfl (by (refine vp_in_iff.mpr ?_); (show 0 ≤ x1.toInt ∧ x1.toInt < ((64 : Nat) : Int)); (have kc_1 := hasBin_t c_1);  omega) d7_bin_57 (rfl) ?_
        exact se_pi C0 (by rw [if_neg c_1, if_neg c_2, if_pos c_3] at hO; exact hO) d7_bin_58
      · by_cases c_4 : x2 = 1
        · refine lv_tableIn (tgt := 59) (off := 40) hx hb d7_bin_19 (by rw [c_4]; decide) (by rw [c_4]; decide) (by rw [c_4]; rfl) (by decide) ?_
          refine lv_aload_n hx hb d7_bin_59 rfl (lv_at hl 0 rfl) ?_
          refine lv_iload_n hx hb d7_bin_60 rfl (lv_at hl 1 rfl) ?_
          refine sr_vp C0 hB (m7_bookOf hX x1 (by (have kc_1 := hasBin_t c_1);  first | assumption | omega) (by (have kc_1 := hasBin_t c_1);  first | assumption | omega)) (hX 20 (by decide)) cf_20 ml_7_169 im_7_bookOf se_7_bookOf in_7 cd_7_bookOf hd7_bookOf ⟨⟨rfl, rfl⟩, by decide, by decide⟩ ⟨Nat.zero_le _, Nat.zero_le _⟩ hl.1 rfl (Nat.le_of_ble_eq_true rfl) d7_bin_61 ?_
          exact se_pi C0 (by rw [if_neg c_1, if_neg c_2, if_neg c_3, if_pos c_4] at hO; exact hO) d7_bin_64
        · by_cases c_5 : x2 = 2
          · refine lv_tableIn (tgt := 65) (off := 46) hx hb d7_bin_19 (by rw [c_5]; decide) (by rw [c_5]; decide) (by rw [c_5]; rfl) (by decide) ?_
            refine lv_aload_n hx hb d7_bin_65 rfl (lv_at hl 0 rfl) ?_
            refine lv_iload_n hx hb d7_bin_66 rfl (lv_at hl 1 rfl) ?_
            refine sr_vp C0 hB (m7_givableOf hX x1 (by (have kc_1 := hasBin_t c_1);  first | assumption | omega) (by (have kc_1 := hasBin_t c_1);  first | assumption | omega)) (hX 20 (by decide)) cf_20 ml_7_133 im_7_givableOf se_7_givableOf in_7 cd_7_givableOf hd7_givableOf ⟨⟨rfl, rfl⟩, by decide, by decide⟩ ⟨Nat.zero_le _, Nat.zero_le _⟩ hl.1 rfl (Nat.le_of_ble_eq_true rfl) d7_bin_67 ?_
            exact se_pi C0 (by rw [if_neg c_1, if_neg c_2, if_neg c_3, if_neg c_4, if_pos c_5] at hO; exact hO) d7_bin_70
          · by_cases c_6 : x2 = 3
            · refine lv_tableIn (tgt := 71) (off := 52) hx hb d7_bin_19 (by rw [c_6]; decide) (by rw [c_6]; decide) (by rw [c_6]; rfl) (by decide) ?_
              refine lv_aload_n hx hb d7_bin_71 rfl (lv_at hl 0 rfl) ?_
              refine sr_get (v := .ref (ad 39 0)) hx hb hw hown hK hB 18 (hX 20 (by decide)) cf_20 us7 (by decide) fl_7_57 (rfl) d7_bin_72 ?_
              refine lv_iload_n hx hb d7_bin_75 rfl (lv_at hl 1 rfl) ?_
              refine sr_iald (v := A 39 0 (x1.toNatClampNeg)) hx hb hK hB (hX 39 (by decide)) rfl rfl (by (refine vp_in_iff.mpr ?_); (show 0 ≤ x1.toInt ∧ x1.toInt < ((64 : Nat) : Int)); (have kc_1 := hasBin_t c_1);  omega) d7_bin_76 (rfl) ?_
              exact se_pi C0 (by rw [if_neg c_1, if_neg c_2, if_neg c_3, if_neg c_4, if_neg c_5, if_pos c_6] at hO; exact hO) d7_bin_77
            · by_cases c_7 : x2 = 4
              · refine lv_tableIn (tgt := 78) (off := 59) hx hb d7_bin_19 (by rw [c_7]; decide) (by rw [c_7]; decide) (by rw [c_7]; rfl) (by decide) ?_
                refine lv_aload_n hx hb d7_bin_78 rfl (lv_at hl 0 rfl) ?_
                refine sr_get (v := .ref (ad 36 0)) hx hb hw hown hK hB 15 (hX 20 (by decide)) cf_20 us7 (by decide) fl_7_48 (rfl) d7_bin_79 ?_
                refine lv_iload_n hx hb d7_bin_82 rfl (lv_at hl 1 rfl) ?_
                refine sr_iald (v := A 36 0 (x1.toNatClampNeg)) hx hb hK hB (hX 36 (by decide)) rfl rfl (by (refine vp_in_iff.mpr ?_); (show 0 ≤ x1.toInt ∧ x1.toInt < ((64 : Nat) : Int)); (have kc_1 := hasBin_t c_1);  omega) d7_bin_83 (rfl) ?_
                exact se_pi C0 (by rw [if_neg c_1, if_neg c_2, if_neg c_3, if_neg c_4, if_neg c_5, if_neg c_6, if_pos c_7] at hO; exact hO) d7_bin_84
              · refine lv_tableOut (tgt := 85) hx hb d7_bin_19 (tab_out 5 (by decide) (by decide) (fun k hk h => by rcases (show k = 0 ∨ k = 1 ∨ k = 2 ∨ k = 3 ∨ k = 4 by omega) with rfl | rfl | rfl | rfl | rfl <;> first | exact c_3 h | exact c_4 h | exact c_5 h | exact c_6 h | exact c_7 h)) (by decide) ?_
                refine lv_aload_n hx hb d7_bin_85 rfl (lv_at hl 0 rfl) ?_
                refine sr_get (v := .int (S 20 0 27)) hx hb hw hown hK hB 27 (hX 20 (by decide)) cf_20 us7 (by decide) fl_7_81 (rfl) d7_bin_86 ?_
                refine lv_if_lt (tgt := 104) hx hb d7_bin_89 (by decide) (fun c_8 => ?_) (fun c_8 => ?_)
                · refine lv_iconst (v := 0) hx hb d7_bin_104 (by decide) ?_
                  exact se_pi C0 (by rw [if_neg c_1, if_neg c_2, if_neg c_3, if_neg c_4, if_neg c_5, if_neg c_6, if_neg c_7, if_pos c_8] at hO; exact hO) d7_bin_105
                · refine lv_aload_n hx hb d7_bin_92 rfl (lv_at hl 0 rfl) ?_
                  refine sr_get (v := .int (S 20 0 28)) hx hb hw hown hK hB 28 (hX 20 (by decide)) cf_20 us7 (by decide) fl_7_153 (rfl) d7_bin_93 ?_
                  refine lv_iload_n hx hb d7_bin_96 rfl (lv_at hl 1 rfl) ?_
                  refine lv_icmp_ne (tgt := 104) hx hb d7_bin_97 (by decide) (fun c_9 => ?_) (fun c_9 => ?_)
                  · refine lv_iconst (v := 0) hx hb d7_bin_104 (by decide) ?_
                    exact se_pi C0 (by rw [if_neg c_1, if_neg c_2, if_neg c_3, if_neg c_4, if_neg c_5, if_neg c_6, if_neg c_7, if_neg c_8, if_neg c_9] at hO; exact hO) d7_bin_105
                  · refine lv_iconst (v := 1) hx hb d7_bin_100 (by decide) ?_
                    refine lv_goto (tgt := 105) hx hb d7_bin_101 (by decide) ?_
                    exact se_pi C0 (by rw [if_neg c_1, if_neg c_2, if_neg c_3, if_neg c_4, if_neg c_5, if_neg c_6, if_neg c_7, if_neg c_8, if_pos c_9] at hO; exact hO) d7_bin_105
    · refine lv_iconst (v := (-1)) hx hb d7_bin_16 (by decide) ?_
      exact se_pi C0 (by rw [if_neg c_1, if_pos c_2] at hO; exact hO) d7_bin_17
theorem hd7_bin : y7_bin.cls = R7 ∧ y7_bin.cls ≠ "java/lang/invoke/MethodHandle" ∧ y7_bin.cls ≠ "java/lang/invoke/VarHandle" ∧ (parseMethodDescriptor y7_bin.desc).map (fun d => d.parameters.length) = some 2 := ⟨rfl, by decide, by decide, by decide +kernel⟩
theorem m7_bin {l : Launch} {D : va_G} {aC : Nat → ClassId} {ad : Nat → Nat → Nat} {X : Nat → Nat → Prop} {S A : sS} {G : sG} (hX : xR X) (x1 : Int32) (x2 : Int32) (hlo : ∀ i, i < 64 → 0 ≤ (A 36 0 i).toInt ∧ (A 36 0 i).toInt ≤ 6) : Met l y7_bin (.code y7_bin b7_bin 3 (some .int) :: wall) (rmk 2) (s_Pc [.ref (ad 20 0), .int x1, .int x2] D aC ad X S A G) (s_Qp (V7_bin S A G x1 x2)) 0 0 (fun _ => False) :=
  s_met (by decide) rfl (Nat.le_of_ble_eq_true rfl) (fun p e s m args below meth c C0 hB ls hl => k7_bin_0 C0 hB hX x1 x2 hlo hl rfl)

def V7_lot (S A : sS) (G : sG) (x1 : Int32) (x2 : Int32) (x3 : Int32) : Int32 := if V7_hasBin S A G x1 = 0 then (-1) else if V7_in S A G x2 0 ((A 36 0 (x1.toNatClampNeg)) - 1) = 0 then (-1) else if x3 = 0 then A 37 0 (((6 * x1) + x2).toNatClampNeg) else A 38 0 (((6 * x1) + x2).toNatClampNeg)
set_option maxRecDepth 100000 in
set_option maxHeartbeats 4000000 in
theorem k7_lot_0 {p : Program} {l : Launch} {e : Env} {s : State} {m : MethodId} {args : Array Value} {below : List Frame} {meth : Method} {c : Code} {D : va_G} {aC : Nat → ClassId} {ad : Nat → Nat → Nat} {X : Nat → Nat → Prop} {S A : sS} {G : sG} (C0 : s_C p s m args meth c b7_lot 4 R7 (some .int) D aC) (hB : s_B D aC ad X (s_N ad X) S A G s.heap s.heap []) (hX : xR X) (x1 : Int32) (x2 : Int32) (x3 : Int32) (hlo : ∀ i, i < 64 → 0 ≤ (A 36 0 i).toInt ∧ (A 36 0 i).toInt ≤ 6) {ls : Array Slot} (hl : lv_has ls 4 [(0, .ref (ad 20 0)), (1, .int x1), (2, .int x2), (3, .int x3)]) {o : Int32} (hO : V7_lot S A G x1 x2 x3 = o) : W p l e (rmk 2) s m args below meth c s.heap [] 0 0 (MQ below (s_Qp o) args s 0 0 (fun _ => False)) (F0 m 0 ls []) := by
  obtain ⟨hx, hb, hml, hown, hw, hK, hr, hlocks⟩ := id C0
  unfold V7_lot at hO
  refine lv_iload_n hx hb d7_lot_0 rfl (lv_at hl 1 rfl) ?_
  refine sr_sp C0 hB (m7_hasBin hX x1 ) ml_7_140 st_7_hasBin in_7 cd_7_hasBin hd7_hasBin ⟨⟨rfl, rfl⟩, by decide, by decide⟩ ⟨Nat.zero_le _, Nat.zero_le _⟩ hl.1 rfl (Nat.le_of_ble_eq_true rfl) d7_lot_1 ?_
  refine lv_if_eq (tgt := 23) hx hb d7_lot_4 (by decide) (fun c_1 => ?_) (fun c_1 => ?_)
  · refine lv_iconst (v := (-1)) hx hb d7_lot_23 (by decide) ?_
    exact se_pi C0 (by rw [if_pos c_1] at hO; exact hO) d7_lot_24
  · refine lv_iload_n hx hb d7_lot_7 rfl (lv_at hl 2 rfl) ?_
    refine lv_iconst (v := 0) hx hb d7_lot_8 (by decide) ?_
    refine lv_aload_n hx hb d7_lot_9 rfl (lv_at hl 0 rfl) ?_
    refine sr_get (v := .ref (ad 36 0)) hx hb hw hown hK hB 15 (hX 20 (by decide)) cf_20 us7 (by decide) fl_7_48 (rfl) d7_lot_10 ?_
    refine lv_iload_n hx hb d7_lot_13 rfl (lv_at hl 1 rfl) ?_
    refine sr_iald (v := A 36 0 (x1.toNatClampNeg)) hx hb hK hB (hX 36 (by decide)) rfl rfl (by (refine vp_in_iff.mpr ?_); (show 0 ≤ x1.toInt ∧ x1.toInt < ((64 : Nat) : Int)); (have kc_1 := hasBin_t c_1); (have hL := at_i hlo (x := x1) (by omega)); (have a1 := sub1_i (x := A 36 0 x1.toNatClampNeg) (by omega));  omega) d7_lot_14 (rfl) ?_
    refine lv_iconst (v := 1) hx hb d7_lot_15 (by decide) ?_
    refine lv_isub hx hb d7_lot_16 ?_
    refine sr_sp C0 hB (m7_in hX x2 0 ((A 36 0 (x1.toNatClampNeg)) - 1) ) ml_7_93 st_7_in in_7 cd_7_in hd7_in ⟨⟨rfl, rfl⟩, by decide, by decide⟩ ⟨Nat.zero_le _, Nat.zero_le _⟩ hl.1 rfl (Nat.le_of_ble_eq_true rfl) d7_lot_17 ?_
    refine lv_if_ne (tgt := 25) hx hb d7_lot_20 (by decide) (fun c_2 => ?_) (fun c_2 => ?_)
    · refine lv_iload_n hx hb d7_lot_25 rfl (lv_at hl 3 rfl) ?_
      refine lv_if_eq (tgt := 43) hx hb d7_lot_26 (by decide) (fun c_3 => ?_) (fun c_3 => ?_)
      · refine lv_aload_n hx hb d7_lot_43 rfl (lv_at hl 0 rfl) ?_
        refine sr_get (v := .ref (ad 37 0)) hx hb hw hown hK hB 16 (hX 20 (by decide)) cf_20 us7 (by decide) fl_7_51 (rfl) d7_lot_44 ?_
        refine lv_bipush (v := 6) hx hb d7_lot_47 (by decide) ?_
        refine lv_iload_n hx hb d7_lot_49 rfl (lv_at hl 1 rfl) ?_
        refine lv_imul hx hb d7_lot_50 ?_
        refine lv_iload_n hx hb d7_lot_51 rfl (lv_at hl 2 rfl) ?_
        refine lv_iadd hx hb d7_lot_52 ?_
        refine sr_iald (v := A 37 0 (((6 * x1) + x2).toNatClampNeg)) hx hb hK hB (hX 37 (by decide)) rfl rfl (by (refine vp_in_iff.mpr ?_); (show 0 ≤ ((6 * x1) + x2).toInt ∧ ((6 * x1) + x2).toInt < ((384 : Nat) : Int)); (have kc_1 := hasBin_t c_1); (have kc_2 := in_t c_2); (have l0 : (0 : Int32).toInt = 0 := rfl); (have l1 : (1 : Int32).toInt = 1 := rfl); (have l36 : (36 : Int32).toInt = 36 := rfl); (have hL := at_i hlo (x := x1) (by omega)); (have a1 := sub1_i (x := A 36 0 x1.toNatClampNeg) (by omega)); (have b1 := mul6_i (x := x1) (by omega) (by omega)); (have b2 := add_i (x := 6 * x1) (y := x2) (by omega) (by omega));  omega) d7_lot_53 (rfl) ?_
        exact se_pi C0 (by rw [if_neg c_1, if_neg c_2, if_pos c_3] at hO; exact hO) d7_lot_54
      · refine lv_aload_n hx hb d7_lot_29 rfl (lv_at hl 0 rfl) ?_
        refine sr_get (v := .ref (ad 38 0)) hx hb hw hown hK hB 17 (hX 20 (by decide)) cf_20 us7 (by decide) fl_7_54 (rfl) d7_lot_30 ?_
        refine lv_bipush (v := 6) hx hb d7_lot_33 (by decide) ?_
        refine lv_iload_n hx hb d7_lot_35 rfl (lv_at hl 1 rfl) ?_
        refine lv_imul hx hb d7_lot_36 ?_
        refine lv_iload_n hx hb d7_lot_37 rfl (lv_at hl 2 rfl) ?_
        refine lv_iadd hx hb d7_lot_38 ?_
        refine sr_iald (v := A 38 0 (((6 * x1) + x2).toNatClampNeg)) hx hb hK hB (hX 38 (by decide)) rfl rfl (by (refine vp_in_iff.mpr ?_); (show 0 ≤ ((6 * x1) + x2).toInt ∧ ((6 * x1) + x2).toInt < ((384 : Nat) : Int)); (have kc_1 := hasBin_t c_1); (have kc_2 := in_t c_2); (have l0 : (0 : Int32).toInt = 0 := rfl); (have l1 : (1 : Int32).toInt = 1 := rfl); (have l36 : (36 : Int32).toInt = 36 := rfl); (have hL := at_i hlo (x := x1) (by omega)); (have a1 := sub1_i (x := A 36 0 x1.toNatClampNeg) (by omega)); (have b1 := mul6_i (x := x1) (by omega) (by omega)); (have b2 := add_i (x := 6 * x1) (y := x2) (by omega) (by omega));  omega) d7_lot_39 (rfl) ?_
        refine lv_goto (tgt := 54) hx hb d7_lot_40 (by decide) ?_
        exact se_pi C0 (by rw [if_neg c_1, if_neg c_2, if_neg c_3] at hO; exact hO) d7_lot_54
    · refine lv_iconst (v := (-1)) hx hb d7_lot_23 (by decide) ?_
      exact se_pi C0 (by rw [if_neg c_1, if_pos c_2] at hO; exact hO) d7_lot_24
theorem hd7_lot : y7_lot.cls = R7 ∧ y7_lot.cls ≠ "java/lang/invoke/MethodHandle" ∧ y7_lot.cls ≠ "java/lang/invoke/VarHandle" ∧ (parseMethodDescriptor y7_lot.desc).map (fun d => d.parameters.length) = some 3 := ⟨rfl, by decide, by decide, by decide +kernel⟩
theorem m7_lot {l : Launch} {D : va_G} {aC : Nat → ClassId} {ad : Nat → Nat → Nat} {X : Nat → Nat → Prop} {S A : sS} {G : sG} (hX : xR X) (x1 : Int32) (x2 : Int32) (x3 : Int32) (hlo : ∀ i, i < 64 → 0 ≤ (A 36 0 i).toInt ∧ (A 36 0 i).toInt ≤ 6) : Met l y7_lot (.code y7_lot b7_lot 4 (some .int) :: wall) (rmk 2) (s_Pc [.ref (ad 20 0), .int x1, .int x2, .int x3] D aC ad X S A G) (s_Qp (V7_lot S A G x1 x2 x3)) 0 0 (fun _ => False) :=
  s_met (by decide) rfl (Nat.le_of_ble_eq_true rfl) (fun p e s m args below meth c C0 hB ls hl => k7_lot_0 C0 hB hX x1 x2 x3 hlo hl rfl)

def V7_wanted_7 (G : sG) (x1 : Int32) : Nat → sS → sS → Int32 → Int32 → Nat → Int32
  | 0, S, A, _, _, _ => 0
  | r + 1, S, A, z2, z3, j4 => if 32 ≤ nI j4 then z3 else if V7_isWanted S A G (nI j4) = 0 then V7_wanted_7 G x1 r S A z2 z3 (j4 + 1) else if z2 = x1 then V7_wanted_7 G x1 r S A (z2 + 1) (nI j4) (j4 + 1) else V7_wanted_7 G x1 r S A (z2 + 1) z3 (j4 + 1)
def V7_wanted (S A : sS) (G : sG) (x1 : Int32) : Int32 := V7_wanted_7 G x1 33 S A 0 (-1) 0
set_option maxRecDepth 100000 in
set_option maxHeartbeats 4000000 in
theorem k7_wanted_7 {p : Program} {l : Launch} {e : Env} {s : State} {m : MethodId} {args : Array Value} {below : List Frame} {meth : Method} {c : Code} {D : va_G} {aC : Nat → ClassId} {ad : Nat → Nat → Nat} {X : Nat → Nat → Prop} {G : sG} {S A : sS} (C0 : s_C p s m args meth c b7_wanted 5 R7 (some .int) D aC) (hB : s_B D aC ad X (s_N ad X) S A G s.heap s.heap []) (hX : xR X) (x1 : Int32) (hlo : ∀ i, i < 64 → 0 ≤ (A 36 0 i).toInt ∧ (A 36 0 i).toInt ≤ 6) : ∀ (r : Nat) (z2 : Int32) (z3 : Int32) (j4 : Nat) (hj : j4 ≤ 32) (hr3 : 32 < j4 + r) {ls : Array Slot} (hl : lv_has ls 5 [(0, .ref (ad 20 0)), (1, .int x1), (2, .int z2), (3, .int z3), (4, .int (nI j4))]) {o : Int32} (hO : V7_wanted_7 G x1 r S A z2 z3 j4 = o), W p l e (rmk 3) s m args below meth c s.heap [] 0 0 (MQ below (s_Qp o) args s 0 0 (fun _ => False)) (F0 m 7 ls []) := by
  obtain ⟨hx, hb, hml, hown, hw, hK, hr, hlocks⟩ := id C0
  intro r
  induction r with
  | zero =>
    intro z2 z3 j4 hj hr3 ls hl o hO
    exact absurd hr3 (by omega)
  | succ r ih =>
    intro z2 z3 j4 hj hr3 ls hl o hO
    rw [V7_wanted_7] at hO
    refine lv_iload hx hb d7_wanted_7 (lv_at hl 4 rfl) ?_
    refine lv_bipush (v := 32) hx hb d7_wanted_9 (by decide) ?_
    refine lv_icmp_ge (tgt := 44) hx hb d7_wanted_11 (by decide) (fun c_1 => ?_) (fun c_1 => ?_)
    · refine lv_iload_n hx hb d7_wanted_44 rfl (lv_at hl 3 rfl) ?_
      exact se_pi C0 (by rw [if_pos c_1] at hO; exact hO) d7_wanted_45
    · refine lv_aload_n hx hb d7_wanted_14 rfl (lv_at hl 0 rfl) ?_
      refine lv_iload hx hb d7_wanted_15 (lv_at hl 4 rfl) ?_
      refine sr_vp C0 hB (m7_isWanted hX (nI j4) (by (have aj4 := nI_toInt (n := j4) (by omega)); (have kc_1 := nle_i c_1); (have l32 : (32 : Int32).toInt = 32 := rfl);  first | assumption | omega) (by (have aj4 := nI_toInt (n := j4) (by omega)); (have kc_1 := nle_i c_1); (have l32 : (32 : Int32).toInt = 32 := rfl);  first | assumption | omega)) (hX 20 (by decide)) cf_20 ml_7_194 im_7_isWanted se_7_isWanted in_7 cd_7_isWanted hd7_isWanted ⟨⟨rfl, rfl⟩, by decide, by decide⟩ ⟨Nat.zero_le _, Nat.zero_le _⟩ hl.1 rfl (Nat.le_of_ble_eq_true rfl) d7_wanted_17 ?_
      refine lv_if_eq (tgt := 38) hx hb d7_wanted_20 (by decide) (fun c_2 => ?_) (fun c_2 => ?_)
      · refine lv_iinc (v := nI (j4 + 1)) (lv' := [(4, .int (nI (j4 + 1))), (0, .ref (ad 20 0)), (1, .int x1), (2, .int z2), (3, .int z3)]) hx hb d7_wanted_38 hl (k := 4) rfl (nI_1 j4) (by decide) rfl (fun ls hl => ?_)
        refine lv_goto (tgt := 7) hx hb d7_wanted_41 (by decide) ?_
        exact ih z2 z3 (j4 + 1) (by (have aj4 := nI_toInt (n := j4) (by omega)); (have kc_1 := nle_i c_1); (have l32 : (32 : Int32).toInt = 32 := rfl);  omega) (by (have aj4 := nI_toInt (n := j4) (by omega)); (have kc_1 := nle_i c_1); (have l32 : (32 : Int32).toInt = 32 := rfl);  omega) (lv_sub hl [1, 2, 3, 4, 0] rfl) (by rw [if_neg c_1, if_pos c_2] at hO; exact hO)
      · refine lv_iload_n hx hb d7_wanted_23 rfl (lv_at hl 2 rfl) ?_
        refine lv_iload_n hx hb d7_wanted_24 rfl (lv_at hl 1 rfl) ?_
        refine lv_icmp_ne (tgt := 33) hx hb d7_wanted_25 (by decide) (fun c_3 => ?_) (fun c_3 => ?_)
        · refine lv_iload_n hx hb d7_wanted_33 rfl (lv_at hl 3 rfl) ?_
          refine lv_istore_n (lv' := [(3, .int z3), (0, .ref (ad 20 0)), (1, .int x1), (2, .int z2), (4, .int (nI j4))]) hx hb d7_wanted_34 rfl hl (by decide) rfl (fun ls hl => ?_)
          refine lv_iinc (v := z2 + 1) (lv' := [(2, .int (z2 + 1)), (3, .int z3), (0, .ref (ad 20 0)), (1, .int x1), (4, .int (nI j4))]) hx hb d7_wanted_35 hl (k := 3) rfl (rfl) (by decide) rfl (fun ls hl => ?_)
          refine lv_iinc (v := nI (j4 + 1)) (lv' := [(4, .int (nI (j4 + 1))), (2, .int (z2 + 1)), (3, .int z3), (0, .ref (ad 20 0)), (1, .int x1)]) hx hb d7_wanted_38 hl (k := 4) rfl (nI_1 j4) (by decide) rfl (fun ls hl => ?_)
          refine lv_goto (tgt := 7) hx hb d7_wanted_41 (by decide) ?_
          exact ih (z2 + 1) z3 (j4 + 1) (by (have aj4 := nI_toInt (n := j4) (by omega)); (have kc_1 := nle_i c_1); (have kc_3 := ne_i c_3); (have l32 : (32 : Int32).toInt = 32 := rfl);  omega) (by (have aj4 := nI_toInt (n := j4) (by omega)); (have kc_1 := nle_i c_1); (have kc_3 := ne_i c_3); (have l32 : (32 : Int32).toInt = 32 := rfl);  omega) (lv_sub hl [3, 4, 1, 2, 0] rfl) (by rw [if_neg c_1, if_neg c_2, if_neg c_3] at hO; exact hO)
        · refine lv_iload hx hb d7_wanted_28 (lv_at hl 4 rfl) ?_
          refine lv_goto (tgt := 34) hx hb d7_wanted_30 (by decide) ?_
          refine lv_istore_n (lv' := [(3, .int (nI j4)), (0, .ref (ad 20 0)), (1, .int x1), (2, .int z2), (4, .int (nI j4))]) hx hb d7_wanted_34 rfl hl (by decide) rfl (fun ls hl => ?_)
          refine lv_iinc (v := z2 + 1) (lv' := [(2, .int (z2 + 1)), (3, .int (nI j4)), (0, .ref (ad 20 0)), (1, .int x1), (4, .int (nI j4))]) hx hb d7_wanted_35 hl (k := 3) rfl (rfl) (by decide) rfl (fun ls hl => ?_)
          refine lv_iinc (v := nI (j4 + 1)) (lv' := [(4, .int (nI (j4 + 1))), (2, .int (z2 + 1)), (3, .int (nI j4)), (0, .ref (ad 20 0)), (1, .int x1)]) hx hb d7_wanted_38 hl (k := 4) rfl (nI_1 j4) (by decide) rfl (fun ls hl => ?_)
          refine lv_goto (tgt := 7) hx hb d7_wanted_41 (by decide) ?_
          exact ih (z2 + 1) (nI j4) (j4 + 1) (by (have aj4 := nI_toInt (n := j4) (by omega)); (have kc_1 := nle_i c_1); (have kc_3 := congrArg Int32.toInt c_3); (have l32 : (32 : Int32).toInt = 32 := rfl);  omega) (by (have aj4 := nI_toInt (n := j4) (by omega)); (have kc_1 := nle_i c_1); (have kc_3 := congrArg Int32.toInt c_3); (have l32 : (32 : Int32).toInt = 32 := rfl);  omega) (lv_sub hl [3, 4, 1, 2, 0] rfl) (by rw [if_neg c_1, if_neg c_2, if_pos c_3] at hO; exact hO)
set_option maxRecDepth 100000 in
set_option maxHeartbeats 4000000 in
theorem k7_wanted_0 {p : Program} {l : Launch} {e : Env} {s : State} {m : MethodId} {args : Array Value} {below : List Frame} {meth : Method} {c : Code} {D : va_G} {aC : Nat → ClassId} {ad : Nat → Nat → Nat} {X : Nat → Nat → Prop} {S A : sS} {G : sG} (C0 : s_C p s m args meth c b7_wanted 5 R7 (some .int) D aC) (hB : s_B D aC ad X (s_N ad X) S A G s.heap s.heap []) (hX : xR X) (x1 : Int32) (hlo : ∀ i, i < 64 → 0 ≤ (A 36 0 i).toInt ∧ (A 36 0 i).toInt ≤ 6) {ls : Array Slot} (hl : lv_has ls 5 [(0, .ref (ad 20 0)), (1, .int x1)]) {o : Int32} (hO : V7_wanted S A G x1 = o) : W p l e (rmk 3) s m args below meth c s.heap [] 0 0 (MQ below (s_Qp o) args s 0 0 (fun _ => False)) (F0 m 0 ls []) := by
  obtain ⟨hx, hb, hml, hown, hw, hK, hr, hlocks⟩ := id C0
  unfold V7_wanted at hO
  refine lv_iconst (v := 0) hx hb d7_wanted_0 (by decide) ?_
  refine lv_istore_n (lv' := [(2, .int 0), (0, .ref (ad 20 0)), (1, .int x1)]) hx hb d7_wanted_1 rfl hl (by decide) rfl (fun ls hl => ?_)
  refine lv_iconst (v := (-1)) hx hb d7_wanted_2 (by decide) ?_
  refine lv_istore_n (lv' := [(3, .int (-1)), (2, .int 0), (0, .ref (ad 20 0)), (1, .int x1)]) hx hb d7_wanted_3 rfl hl (by decide) rfl (fun ls hl => ?_)
  refine lv_iconst (v := 0) hx hb d7_wanted_4 (by decide) ?_
  refine lv_istore (lv' := [(4, .int 0), (3, .int (-1)), (2, .int 0), (0, .ref (ad 20 0)), (1, .int x1)]) hx hb d7_wanted_5 hl (by decide) rfl (fun ls hl => ?_)
  exact k7_wanted_7 C0 hB hX x1 hlo 33 0 (-1) 0 (by (have lx1 := ln1);  omega) (by (have lx1 := ln1);  omega) (lv_sub hl [3, 4, 2, 1, 0] rfl) (hO)
theorem hd7_wanted : y7_wanted.cls = R7 ∧ y7_wanted.cls ≠ "java/lang/invoke/MethodHandle" ∧ y7_wanted.cls ≠ "java/lang/invoke/VarHandle" ∧ (parseMethodDescriptor y7_wanted.desc).map (fun d => d.parameters.length) = some 1 := ⟨rfl, by decide, by decide, by decide +kernel⟩
theorem m7_wanted {l : Launch} {D : va_G} {aC : Nat → ClassId} {ad : Nat → Nat → Nat} {X : Nat → Nat → Prop} {S A : sS} {G : sG} (hX : xR X) (x1 : Int32) (hlo : ∀ i, i < 64 → 0 ≤ (A 36 0 i).toInt ∧ (A 36 0 i).toInt ≤ 6) : Met l y7_wanted (.code y7_wanted b7_wanted 5 (some .int) :: wall) (rmk 3) (s_Pc [.ref (ad 20 0), .int x1] D aC ad X S A G) (s_Qp (V7_wanted S A G x1)) 0 0 (fun _ => False) :=
  s_met (by decide) rfl (Nat.le_of_ble_eq_true rfl) (fun p e s m args below meth c C0 hB ls hl => k7_wanted_0 C0 hB hX x1 hlo hl rfl)

def O7_giveBack_135 (S A : sS) (G : sG) (x1 : Int32) (x2 : Int32) (z3 : Int32) : Int32 × sS × sS := (A 34 0 (x1.toNatClampNeg), S, A)
def O7_giveBack (S A : sS) (G : sG) (x1 : Int32) (x2 : Int32) : Int32 × sS × sS := if V7_hasItem S A G x1 = 0 then ((-1), S, A) else if V7_in S A G x2 1 1000 = 0 then ((-1), S, A) else if 0 ≤ S 20 0 6 then if A 23 0 ((S 20 0 6).toNatClampNeg) = 2 then ((-3), S, A) else if S 20 0 27 < 0 then if A 32 0 (x1.toNatClampNeg) = 0 then if S 20 0 34 < 290 then O7_giveBack_135 (O7_note S (up3 A 34 0 (x1.toNatClampNeg) ((A 34 0 (x1.toNatClampNeg)) + x2)) G 5 ((-1) - x1) x2 (-1)).1 (O7_note S (up3 A 34 0 (x1.toNatClampNeg) ((A 34 0 (x1.toNatClampNeg)) + x2)) G 5 ((-1) - x1) x2 (-1)).2 G x1 x2 0 else ((-8), S, A) else if V7_isWatched S A G  = 0 then ((-5), S, A) else if S 20 0 34 < 290 then O7_giveBack_135 (O7_note S (up3 A 34 0 (x1.toNatClampNeg) ((A 34 0 (x1.toNatClampNeg)) + x2)) G 5 ((-1) - x1) x2 (-1)).1 (O7_note S (up3 A 34 0 (x1.toNatClampNeg) ((A 34 0 (x1.toNatClampNeg)) + x2)) G 5 ((-1) - x1) x2 (-1)).2 G x1 x2 0 else ((-8), S, A) else ((-4), S, A) else ((-2), S, A)
set_option maxRecDepth 100000 in
set_option maxHeartbeats 4000000 in
theorem k7_giveBack_135 {p : Program} {l : Launch} {e : Env} {s : State} {m : MethodId} {args : Array Value} {below : List Frame} {meth : Method} {c : Code} {D : va_G} {aC : Nat → ClassId} {ad : Nat → Nat → Nat} {X : Nat → Nat → Prop} {S A : sS} {G : sG} {H : Heap} {locs : List Loc} (C0 : s_C p s m args meth c b7_giveBack 4 R7 (some .int) D aC) (hB : s_B D aC ad X (s_N ad X) S A G s.heap H locs) (hX : xR X) (x1 : Int32) (x2 : Int32) (z3 : Int32) (hx1b : 0 ≤ x1.toInt ∧ x1.toInt < 32) {ls : Array Slot} (hl : lv_has ls 4 [(0, .ref (ad 20 0)), (1, .int x1), (2, .int x2), (3, .int z3)]) {o : Int32 × sS × sS} (hO : O7_giveBack_135 S A G x1 x2 z3 = o) : W p l e (rmk 2) s m args below meth c H locs 0 0 (MQ below (s_Qi D aC ad X G o) args s 0 0 (s_N ad X)) (F0 m 135 ls []) := by
  obtain ⟨hx, hb, hml, hown, hw, hK, hr, hlocks⟩ := id C0
  unfold O7_giveBack_135 at hO
  refine lv_aload_n hx hb d7_giveBack_135 rfl (lv_at hl 0 rfl) ?_
  refine sr_get (v := .ref (ad 34 0)) hx hb hw hown hK hB 13 (hX 20 (by decide)) cf_20 us7 (by decide) fl_7_42 (rfl) d7_giveBack_136 ?_
  refine lv_iload_n hx hb d7_giveBack_139 rfl (lv_at hl 1 rfl) ?_
  refine sr_iald (v := A 34 0 (x1.toNatClampNeg)) hx hb hK hB (hX 34 (by decide)) rfl rfl (by (refine vp_in_iff.mpr ?_); (show 0 ≤ x1.toInt ∧ x1.toInt < ((32 : Nat) : Int));  omega) d7_giveBack_140 (rfl) ?_
  exact se_i C0 hB (hO) d7_giveBack_141
set_option maxRecDepth 100000 in
set_option maxHeartbeats 4000000 in
theorem k7_giveBack_0 {p : Program} {l : Launch} {e : Env} {s : State} {m : MethodId} {args : Array Value} {below : List Frame} {meth : Method} {c : Code} {D : va_G} {aC : Nat → ClassId} {ad : Nat → Nat → Nat} {X : Nat → Nat → Prop} {S A : sS} {G : sG} {H : Heap} {locs : List Loc} (C0 : s_C p s m args meth c b7_giveBack 4 R7 (some .int) D aC) (hB : s_B D aC ad X (s_N ad X) S A G s.heap H locs) (hX : xR X) (x1 : Int32) (x2 : Int32) (hwho : (S 20 0 6).toInt < 16) (hen : 0 ≤ (S 20 0 34).toInt ∧ (S 20 0 34).toInt ≤ 300) {ls : Array Slot} (hl : lv_has ls 4 [(0, .ref (ad 20 0)), (1, .int x1), (2, .int x2)]) {o : Int32 × sS × sS} (hO : O7_giveBack S A G x1 x2 = o) : W p l e (rmk 2) s m args below meth c H locs 0 0 (MQ below (s_Qi D aC ad X G o) args s 0 0 (s_N ad X)) (F0 m 0 ls []) := by
  obtain ⟨hx, hb, hml, hown, hw, hK, hr, hlocks⟩ := id C0
  unfold O7_giveBack at hO
  refine lv_aload_n hx hb d7_giveBack_0 rfl (lv_at hl 0 rfl) ?_
  refine lv_iload_n hx hb d7_giveBack_1 rfl (lv_at hl 1 rfl) ?_
  refine sr_vp C0 hB (m7_hasItem hX x1 ) (hX 20 (by decide)) cf_20 ml_7_117 im_7_hasItem se_7_hasItem in_7 cd_7_hasItem hd7_hasItem ⟨⟨rfl, rfl⟩, by decide, by decide⟩ ⟨Nat.zero_le _, Nat.zero_le _⟩ hl.1 rfl (Nat.le_of_ble_eq_true rfl) d7_giveBack_2 ?_
  refine lv_if_eq (tgt := 19) hx hb d7_giveBack_5 (by decide) (fun c_1 => ?_) (fun c_1 => ?_)
  · refine lv_iconst (v := (-1)) hx hb d7_giveBack_19 (by decide) ?_
    refine lv_goto (tgt := 66) hx hb d7_giveBack_20 (by decide) ?_
    refine lv_istore_n (lv' := [(3, .int (-1)), (0, .ref (ad 20 0)), (1, .int x1), (2, .int x2)]) hx hb d7_giveBack_66 rfl hl (by decide) rfl (fun ls hl => ?_)
    refine lv_iload_n hx hb d7_giveBack_67 rfl (lv_at hl 0 rfl) ?_
    refine lv_if_ne (tgt := 109) hx hb d7_giveBack_68 (by decide) (fun _ => ?_) (fun c => absurd c (by decide))
    refine lv_iload_n hx hb d7_giveBack_109 rfl (lv_at hl 0 rfl) ?_
    refine lv_if_ge (tgt := 115) hx hb d7_giveBack_110 (by decide) (fun c => absurd c (by decide)) (fun _ => ?_)
    refine lv_iload_n hx hb d7_giveBack_113 rfl (lv_at hl 0 rfl) ?_
    exact se_i C0 hB (by rw [if_pos c_1] at hO; exact hO) d7_giveBack_114
  · refine lv_iload_n hx hb d7_giveBack_8 rfl (lv_at hl 2 rfl) ?_
    refine lv_iconst (v := 1) hx hb d7_giveBack_9 (by decide) ?_
    refine lv_sipush (v := 1000) hx hb d7_giveBack_10 (by decide) ?_
    refine sr_sp C0 hB (m7_in hX x2 1 1000 ) ml_7_93 st_7_in in_7 cd_7_in hd7_in ⟨⟨rfl, rfl⟩, by decide, by decide⟩ ⟨Nat.zero_le _, Nat.zero_le _⟩ hl.1 rfl (Nat.le_of_ble_eq_true rfl) d7_giveBack_13 ?_
    refine lv_if_ne (tgt := 23) hx hb d7_giveBack_16 (by decide) (fun c_4 => ?_) (fun c_4 => ?_)
    · refine lv_aload_n hx hb d7_giveBack_23 rfl (lv_at hl 0 rfl) ?_
      refine sr_get (v := .int (S 20 0 6)) hx hb hw hown hK hB 6 (hX 20 (by decide)) cf_20 us7 (by decide) fl_7_26 (rfl) d7_giveBack_24 ?_
      refine lv_if_ge (tgt := 35) hx hb d7_giveBack_27 (by decide) (fun c_5 => ?_) (fun c_5 => ?_)
      · refine lv_aload_n hx hb d7_giveBack_35 rfl (lv_at hl 0 rfl) ?_
        refine sr_get (v := .ref (ad 23 0)) hx hb hw hown hK hB 2 (hX 20 (by decide)) cf_20 us7 (by decide) fl_7_13 (rfl) d7_giveBack_36 ?_
        refine lv_aload_n hx hb d7_giveBack_39 rfl (lv_at hl 0 rfl) ?_
        refine sr_get (v := .int (S 20 0 6)) hx hb hw hown hK hB 6 (hX 20 (by decide)) cf_20 us7 (by decide) fl_7_26 (rfl) d7_giveBack_40 ?_
        refine sr_iald (v := A 23 0 ((S 20 0 6).toNatClampNeg)) hx hb hK hB (hX 23 (by decide)) rfl rfl (by (refine vp_in_iff.mpr ?_); (show 0 ≤ (S 20 0 6).toInt ∧ (S 20 0 6).toInt < ((16 : Nat) : Int)); (have kc_5 := le_i c_5); (have l0 : (0 : Int32).toInt = 0 := rfl); (have l20 : (20 : Int32).toInt = 20 := rfl); (have l6 : (6 : Int32).toInt = 6 := rfl);  omega) d7_giveBack_43 (rfl) ?_
        refine lv_iconst (v := 2) hx hb d7_giveBack_44 (by decide) ?_
        refine lv_icmp_ne (tgt := 53) hx hb d7_giveBack_45 (by decide) (fun c_6 => ?_) (fun c_6 => ?_)
        · refine lv_aload_n hx hb d7_giveBack_53 rfl (lv_at hl 0 rfl) ?_
          refine sr_get (v := .int (S 20 0 27)) hx hb hw hown hK hB 27 (hX 20 (by decide)) cf_20 us7 (by decide) fl_7_81 (rfl) d7_giveBack_54 ?_
          refine lv_if_lt (tgt := 65) hx hb d7_giveBack_57 (by decide) (fun c_7 => ?_) (fun c_7 => ?_)
          · refine lv_iconst (v := 0) hx hb d7_giveBack_65 (by decide) ?_
            refine lv_istore_n (lv' := [(3, .int 0), (0, .ref (ad 20 0)), (1, .int x1), (2, .int x2)]) hx hb d7_giveBack_66 rfl hl (by decide) rfl (fun ls hl => ?_)
            refine lv_iload_n hx hb d7_giveBack_67 rfl (lv_at hl 0 rfl) ?_
            refine lv_if_ne (tgt := 109) hx hb d7_giveBack_68 (by decide) (fun c => absurd (by decide) c) (fun _ => ?_)
            refine lv_aload_n hx hb d7_giveBack_71 rfl (lv_at hl 1 rfl) ?_
            refine sr_get (v := .ref (ad 32 0)) hx hb hw hown hK hB 11 (hX 20 (by decide)) cf_20 us7 (by decide) fl_7_36 (rfl) d7_giveBack_72 ?_
            refine lv_iload_n hx hb d7_giveBack_75 rfl (lv_at hl 2 rfl) ?_
            refine sr_zald (v := A 32 0 (x1.toNatClampNeg)) hx hb hK hB (hX 32 (by decide)) rfl rfl (by (refine vp_in_iff.mpr ?_); (show 0 ≤ x1.toInt ∧ x1.toInt < ((32 : Nat) : Int)); (have kc_1 := hasItem_t c_1);  omega) d7_giveBack_76 (rfl) ?_
            refine lv_if_eq (tgt := 92) hx hb d7_giveBack_77 (by decide) (fun c_9 => ?_) (fun c_9 => ?_)
            · refine lv_aload_n hx hb d7_giveBack_92 rfl (lv_at hl 1 rfl) ?_
              refine sr_get (v := .int (S 20 0 34)) hx hb hw hown hK hB 34 (hX 20 (by decide)) cf_20 us7 (by decide) fl_7_130 (rfl) d7_giveBack_93 ?_
              refine lv_sipush (v := 290) hx hb d7_giveBack_96 (by decide) ?_
              refine lv_icmp_lt (tgt := 107) hx hb d7_giveBack_99 (by decide) (fun c_10 => ?_) (fun c_10 => ?_)
              · refine lv_iconst (v := 0) hx hb d7_giveBack_107 (by decide) ?_
                refine lv_istore_n (lv' := [(3, .int 0), (0, .ref (ad 20 0)), (1, .int x1), (2, .int x2)]) hx hb d7_giveBack_108 rfl hl (by decide) rfl (fun ls hl => ?_)
                refine lv_iload_n hx hb d7_giveBack_109 rfl (lv_at hl 0 rfl) ?_
                refine lv_if_ge (tgt := 115) hx hb d7_giveBack_110 (by decide) (fun _ => ?_) (fun c => absurd (by decide) c)
                refine lv_aload_n hx hb d7_giveBack_115 rfl (lv_at hl 1 rfl) ?_
                refine sr_get (v := .ref (ad 34 0)) hx hb hw hown hK hB 13 (hX 20 (by decide)) cf_20 us7 (by decide) fl_7_42 (rfl) d7_giveBack_116 ?_
                refine lv_iload_n hx hb d7_giveBack_119 rfl (lv_at hl 2 rfl) ?_
                refine lv_dup2_11 hx hb d7_giveBack_120 rfl rfl ?_
                refine sr_iald (v := A 34 0 (x1.toNatClampNeg)) hx hb hK hB (hX 34 (by decide)) rfl rfl (by (refine vp_in_iff.mpr ?_); (show 0 ≤ x1.toInt ∧ x1.toInt < ((32 : Nat) : Int)); (have kc_1 := hasItem_t c_1);  omega) d7_giveBack_121 (rfl) ?_
                refine lv_iload_n hx hb d7_giveBack_122 rfl (lv_at hl 3 rfl) ?_
                refine lv_iadd hx hb d7_giveBack_123 ?_
                refine sr_iast hx hb hK hB (hX 34 (by decide)) rfl rfl (by (refine vp_in_iff.mpr ?_); (show 0 ≤ x1.toInt ∧ x1.toInt < ((32 : Nat) : Int)); (have kc_1 := hasItem_t c_1);  omega) d7_giveBack_124 (fun H locs hB => ?_)
                refine lv_aload_n hx hb d7_giveBack_125 rfl (lv_at hl 1 rfl) ?_
                refine lv_iconst (v := 5) hx hb d7_giveBack_126 (by decide) ?_
                refine lv_iconst (v := (-1)) hx hb d7_giveBack_127 (by decide) ?_
                refine lv_iload_n hx hb d7_giveBack_128 rfl (lv_at hl 2 rfl) ?_
                refine lv_isub hx hb d7_giveBack_129 ?_
                refine lv_iload_n hx hb d7_giveBack_130 rfl (lv_at hl 3 rfl) ?_
                refine lv_iconst (v := (-1)) hx hb d7_giveBack_131 (by decide) ?_
                refine sr_vv C0 hB (m7_note hX 5 ((-1) - x1) x2 (-1) (by (have lx1 := ln1); (have kc_1 := hasItem_t c_1); (have kc_4 := in_t c_4); (have kc_10 := lt_i c_10); (have l0 : (0 : Int32).toInt = 0 := rfl); (have l1 : (1 : Int32).toInt = 1 := rfl); (have l1000 : (1000 : Int32).toInt = 1000 := rfl); (have l20 : (20 : Int32).toInt = 20 := rfl); (have l290 : (290 : Int32).toInt = 290 := rfl); (have l34 : (34 : Int32).toInt = 34 := rfl);  first | assumption | omega)) (hX 20 (by decide)) cf_20 ml_7_180 im_7_note se_7_note in_7 cd_7_note hd7_note ⟨⟨rfl, rfl⟩, by decide, by decide⟩ ⟨Nat.zero_le _, Nat.zero_le _⟩ hl.1 rfl (Nat.le_of_ble_eq_true rfl) d7_giveBack_132 (fun H locs hB => ?_)
                exact k7_giveBack_135 C0 hB hX x1 x2 0 (by (have kc_1 := hasItem_t c_1); (have kc_4 := in_t c_4); (have kc_5 := le_i c_5); (have kc_6 := ne_i c_6); (have kc_7 := lt_i c_7); (have kc_9 := congrArg Int32.toInt c_9); (have kc_10 := lt_i c_10); (have l0 : (0 : Int32).toInt = 0 := rfl); (have l1 : (1 : Int32).toInt = 1 := rfl); (have l1000 : (1000 : Int32).toInt = 1000 := rfl); (have l2 : (2 : Int32).toInt = 2 := rfl); (have l20 : (20 : Int32).toInt = 20 := rfl); (have l23 : (23 : Int32).toInt = 23 := rfl); (have l27 : (27 : Int32).toInt = 27 := rfl); (have l290 : (290 : Int32).toInt = 290 := rfl); (have l32 : (32 : Int32).toInt = 32 := rfl); (have l34 : (34 : Int32).toInt = 34 := rfl); (have l6 : (6 : Int32).toInt = 6 := rfl);  first | assumption | omega) (lv_sub hl [1, 2, 3, 0] rfl) (by rw [if_neg c_1, if_neg c_4, if_pos c_5, if_neg c_6, if_pos c_7, if_pos c_9, if_pos c_10] at hO; exact hO)
              · refine lv_bipush (v := (-8)) hx hb d7_giveBack_102 (by decide) ?_
                refine lv_goto (tgt := 108) hx hb d7_giveBack_104 (by decide) ?_
                refine lv_istore_n (lv' := [(3, .int (-8)), (0, .ref (ad 20 0)), (1, .int x1), (2, .int x2)]) hx hb d7_giveBack_108 rfl hl (by decide) rfl (fun ls hl => ?_)
                refine lv_iload_n hx hb d7_giveBack_109 rfl (lv_at hl 0 rfl) ?_
                refine lv_if_ge (tgt := 115) hx hb d7_giveBack_110 (by decide) (fun c => absurd c (by decide)) (fun _ => ?_)
                refine lv_iload_n hx hb d7_giveBack_113 rfl (lv_at hl 0 rfl) ?_
                exact se_i C0 hB (by rw [if_neg c_1, if_neg c_4, if_pos c_5, if_neg c_6, if_pos c_7, if_pos c_9, if_neg c_10] at hO; exact hO) d7_giveBack_114
            · refine lv_aload_n hx hb d7_giveBack_80 rfl (lv_at hl 1 rfl) ?_
              refine sr_vp C0 hB (m7_isWatched hX  ) (hX 20 (by decide)) cf_20 ml_7_143 im_7_isWatched se_7_isWatched in_7 cd_7_isWatched hd7_isWatched ⟨⟨rfl, rfl⟩, by decide, by decide⟩ ⟨Nat.zero_le _, Nat.zero_le _⟩ hl.1 rfl (Nat.le_of_ble_eq_true rfl) d7_giveBack_81 ?_
              refine lv_if_ne (tgt := 92) hx hb d7_giveBack_84 (by decide) (fun c_13 => ?_) (fun c_13 => ?_)
              · refine lv_aload_n hx hb d7_giveBack_92 rfl (lv_at hl 1 rfl) ?_
                refine sr_get (v := .int (S 20 0 34)) hx hb hw hown hK hB 34 (hX 20 (by decide)) cf_20 us7 (by decide) fl_7_130 (rfl) d7_giveBack_93 ?_
                refine lv_sipush (v := 290) hx hb d7_giveBack_96 (by decide) ?_
                refine lv_icmp_lt (tgt := 107) hx hb d7_giveBack_99 (by decide) (fun c_14 => ?_) (fun c_14 => ?_)
                · refine lv_iconst (v := 0) hx hb d7_giveBack_107 (by decide) ?_
                  refine lv_istore_n (lv' := [(3, .int 0), (0, .ref (ad 20 0)), (1, .int x1), (2, .int x2)]) hx hb d7_giveBack_108 rfl hl (by decide) rfl (fun ls hl => ?_)
                  refine lv_iload_n hx hb d7_giveBack_109 rfl (lv_at hl 0 rfl) ?_
                  refine lv_if_ge (tgt := 115) hx hb d7_giveBack_110 (by decide) (fun _ => ?_) (fun c => absurd (by decide) c)
                  refine lv_aload_n hx hb d7_giveBack_115 rfl (lv_at hl 1 rfl) ?_
                  refine sr_get (v := .ref (ad 34 0)) hx hb hw hown hK hB 13 (hX 20 (by decide)) cf_20 us7 (by decide) fl_7_42 (rfl) d7_giveBack_116 ?_
                  refine lv_iload_n hx hb d7_giveBack_119 rfl (lv_at hl 2 rfl) ?_
                  refine lv_dup2_11 hx hb d7_giveBack_120 rfl rfl ?_
                  refine sr_iald (v := A 34 0 (x1.toNatClampNeg)) hx hb hK hB (hX 34 (by decide)) rfl rfl (by (refine vp_in_iff.mpr ?_); (show 0 ≤ x1.toInt ∧ x1.toInt < ((32 : Nat) : Int)); (have kc_1 := hasItem_t c_1);  omega) d7_giveBack_121 (rfl) ?_
                  refine lv_iload_n hx hb d7_giveBack_122 rfl (lv_at hl 3 rfl) ?_
                  refine lv_iadd hx hb d7_giveBack_123 ?_
                  refine sr_iast hx hb hK hB (hX 34 (by decide)) rfl rfl (by (refine vp_in_iff.mpr ?_); (show 0 ≤ x1.toInt ∧ x1.toInt < ((32 : Nat) : Int)); (have kc_1 := hasItem_t c_1);  omega) d7_giveBack_124 (fun H locs hB => ?_)
                  refine lv_aload_n hx hb d7_giveBack_125 rfl (lv_at hl 1 rfl) ?_
                  refine lv_iconst (v := 5) hx hb d7_giveBack_126 (by decide) ?_
                  refine lv_iconst (v := (-1)) hx hb d7_giveBack_127 (by decide) ?_
                  refine lv_iload_n hx hb d7_giveBack_128 rfl (lv_at hl 2 rfl) ?_
                  refine lv_isub hx hb d7_giveBack_129 ?_
                  refine lv_iload_n hx hb d7_giveBack_130 rfl (lv_at hl 3 rfl) ?_
                  refine lv_iconst (v := (-1)) hx hb d7_giveBack_131 (by decide) ?_
                  refine sr_vv C0 hB (m7_note hX 5 ((-1) - x1) x2 (-1) (by (have lx1 := ln1); (have kc_1 := hasItem_t c_1); (have kc_4 := in_t c_4); (have kc_14 := lt_i c_14); (have l0 : (0 : Int32).toInt = 0 := rfl); (have l1 : (1 : Int32).toInt = 1 := rfl); (have l1000 : (1000 : Int32).toInt = 1000 := rfl); (have l20 : (20 : Int32).toInt = 20 := rfl); (have l290 : (290 : Int32).toInt = 290 := rfl); (have l34 : (34 : Int32).toInt = 34 := rfl);  first | assumption | omega)) (hX 20 (by decide)) cf_20 ml_7_180 im_7_note se_7_note in_7 cd_7_note hd7_note ⟨⟨rfl, rfl⟩, by decide, by decide⟩ ⟨Nat.zero_le _, Nat.zero_le _⟩ hl.1 rfl (Nat.le_of_ble_eq_true rfl) d7_giveBack_132 (fun H locs hB => ?_)
                  exact k7_giveBack_135 C0 hB hX x1 x2 0 (by (have kc_1 := hasItem_t c_1); (have kc_4 := in_t c_4); (have kc_5 := le_i c_5); (have kc_6 := ne_i c_6); (have kc_7 := lt_i c_7); (have kc_9 := ne_i c_9); (have kc_14 := lt_i c_14); (have l0 : (0 : Int32).toInt = 0 := rfl); (have l1 : (1 : Int32).toInt = 1 := rfl); (have l1000 : (1000 : Int32).toInt = 1000 := rfl); (have l2 : (2 : Int32).toInt = 2 := rfl); (have l20 : (20 : Int32).toInt = 20 := rfl); (have l23 : (23 : Int32).toInt = 23 := rfl); (have l27 : (27 : Int32).toInt = 27 := rfl); (have l290 : (290 : Int32).toInt = 290 := rfl); (have l32 : (32 : Int32).toInt = 32 := rfl); (have l34 : (34 : Int32).toInt = 34 := rfl); (have l6 : (6 : Int32).toInt = 6 := rfl);  first | assumption | omega) (lv_sub hl [1, 2, 3, 0] rfl) (by rw [if_neg c_1, if_neg c_4, if_pos c_5, if_neg c_6, if_pos c_7, if_neg c_9, if_neg c_13, if_pos c_14] at hO; exact hO)
                · refine lv_bipush (v := (-8)) hx hb d7_giveBack_102 (by decide) ?_
                  refine lv_goto (tgt := 108) hx hb d7_giveBack_104 (by decide) ?_
                  refine lv_istore_n (lv' := [(3, .int (-8)), (0, .ref (ad 20 0)), (1, .int x1), (2, .int x2)]) hx hb d7_giveBack_108 rfl hl (by decide) rfl (fun ls hl => ?_)
                  refine lv_iload_n hx hb d7_giveBack_109 rfl (lv_at hl 0 rfl) ?_
                  refine lv_if_ge (tgt := 115) hx hb d7_giveBack_110 (by decide) (fun c => absurd c (by decide)) (fun _ => ?_)
                  refine lv_iload_n hx hb d7_giveBack_113 rfl (lv_at hl 0 rfl) ?_
                  exact se_i C0 hB (by rw [if_neg c_1, if_neg c_4, if_pos c_5, if_neg c_6, if_pos c_7, if_neg c_9, if_neg c_13, if_neg c_14] at hO; exact hO) d7_giveBack_114
              · refine lv_bipush (v := (-5)) hx hb d7_giveBack_87 (by decide) ?_
                refine lv_goto (tgt := 108) hx hb d7_giveBack_89 (by decide) ?_
                refine lv_istore_n (lv' := [(3, .int (-5)), (0, .ref (ad 20 0)), (1, .int x1), (2, .int x2)]) hx hb d7_giveBack_108 rfl hl (by decide) rfl (fun ls hl => ?_)
                refine lv_iload_n hx hb d7_giveBack_109 rfl (lv_at hl 0 rfl) ?_
                refine lv_if_ge (tgt := 115) hx hb d7_giveBack_110 (by decide) (fun c => absurd c (by decide)) (fun _ => ?_)
                refine lv_iload_n hx hb d7_giveBack_113 rfl (lv_at hl 0 rfl) ?_
                exact se_i C0 hB (by rw [if_neg c_1, if_neg c_4, if_pos c_5, if_neg c_6, if_pos c_7, if_neg c_9, if_pos c_13] at hO; exact hO) d7_giveBack_114
          · refine lv_bipush (v := (-4)) hx hb d7_giveBack_60 (by decide) ?_
            refine lv_goto (tgt := 66) hx hb d7_giveBack_62 (by decide) ?_
            refine lv_istore_n (lv' := [(3, .int (-4)), (0, .ref (ad 20 0)), (1, .int x1), (2, .int x2)]) hx hb d7_giveBack_66 rfl hl (by decide) rfl (fun ls hl => ?_)
            refine lv_iload_n hx hb d7_giveBack_67 rfl (lv_at hl 0 rfl) ?_
            refine lv_if_ne (tgt := 109) hx hb d7_giveBack_68 (by decide) (fun _ => ?_) (fun c => absurd c (by decide))
            refine lv_iload_n hx hb d7_giveBack_109 rfl (lv_at hl 0 rfl) ?_
            refine lv_if_ge (tgt := 115) hx hb d7_giveBack_110 (by decide) (fun c => absurd c (by decide)) (fun _ => ?_)
            refine lv_iload_n hx hb d7_giveBack_113 rfl (lv_at hl 0 rfl) ?_
            exact se_i C0 hB (by rw [if_neg c_1, if_neg c_4, if_pos c_5, if_neg c_6, if_neg c_7] at hO; exact hO) d7_giveBack_114
        · refine lv_bipush (v := (-3)) hx hb d7_giveBack_48 (by decide) ?_
          refine lv_goto (tgt := 66) hx hb d7_giveBack_50 (by decide) ?_
          refine lv_istore_n (lv' := [(3, .int (-3)), (0, .ref (ad 20 0)), (1, .int x1), (2, .int x2)]) hx hb d7_giveBack_66 rfl hl (by decide) rfl (fun ls hl => ?_)
          refine lv_iload_n hx hb d7_giveBack_67 rfl (lv_at hl 0 rfl) ?_
          refine lv_if_ne (tgt := 109) hx hb d7_giveBack_68 (by decide) (fun _ => ?_) (fun c => absurd c (by decide))
          refine lv_iload_n hx hb d7_giveBack_109 rfl (lv_at hl 0 rfl) ?_
          refine lv_if_ge (tgt := 115) hx hb d7_giveBack_110 (by decide) (fun c => absurd c (by decide)) (fun _ => ?_)
          refine lv_iload_n hx hb d7_giveBack_113 rfl (lv_at hl 0 rfl) ?_
          exact se_i C0 hB (by rw [if_neg c_1, if_neg c_4, if_pos c_5, if_pos c_6] at hO; exact hO) d7_giveBack_114
      · refine lv_bipush (v := (-2)) hx hb d7_giveBack_30 (by decide) ?_
        refine lv_goto (tgt := 66) hx hb d7_giveBack_32 (by decide) ?_
        refine lv_istore_n (lv' := [(3, .int (-2)), (0, .ref (ad 20 0)), (1, .int x1), (2, .int x2)]) hx hb d7_giveBack_66 rfl hl (by decide) rfl (fun ls hl => ?_)
        refine lv_iload_n hx hb d7_giveBack_67 rfl (lv_at hl 0 rfl) ?_
        refine lv_if_ne (tgt := 109) hx hb d7_giveBack_68 (by decide) (fun _ => ?_) (fun c => absurd c (by decide))
        refine lv_iload_n hx hb d7_giveBack_109 rfl (lv_at hl 0 rfl) ?_
        refine lv_if_ge (tgt := 115) hx hb d7_giveBack_110 (by decide) (fun c => absurd c (by decide)) (fun _ => ?_)
        refine lv_iload_n hx hb d7_giveBack_113 rfl (lv_at hl 0 rfl) ?_
        exact se_i C0 hB (by rw [if_neg c_1, if_neg c_4, if_neg c_5] at hO; exact hO) d7_giveBack_114
    · refine lv_iconst (v := (-1)) hx hb d7_giveBack_19 (by decide) ?_
      refine lv_goto (tgt := 66) hx hb d7_giveBack_20 (by decide) ?_
      refine lv_istore_n (lv' := [(3, .int (-1)), (0, .ref (ad 20 0)), (1, .int x1), (2, .int x2)]) hx hb d7_giveBack_66 rfl hl (by decide) rfl (fun ls hl => ?_)
      refine lv_iload_n hx hb d7_giveBack_67 rfl (lv_at hl 0 rfl) ?_
      refine lv_if_ne (tgt := 109) hx hb d7_giveBack_68 (by decide) (fun _ => ?_) (fun c => absurd c (by decide))
      refine lv_iload_n hx hb d7_giveBack_109 rfl (lv_at hl 0 rfl) ?_
      refine lv_if_ge (tgt := 115) hx hb d7_giveBack_110 (by decide) (fun c => absurd c (by decide)) (fun _ => ?_)
      refine lv_iload_n hx hb d7_giveBack_113 rfl (lv_at hl 0 rfl) ?_
      exact se_i C0 hB (by rw [if_neg c_1, if_pos c_4] at hO; exact hO) d7_giveBack_114
theorem hd7_giveBack : y7_giveBack.cls = R7 ∧ y7_giveBack.cls ≠ "java/lang/invoke/MethodHandle" ∧ y7_giveBack.cls ≠ "java/lang/invoke/VarHandle" ∧ (parseMethodDescriptor y7_giveBack.desc).map (fun d => d.parameters.length) = some 2 := ⟨rfl, by decide, by decide, by decide +kernel⟩
theorem m7_giveBack {l : Launch} {D : va_G} {aC : Nat → ClassId} {ad : Nat → Nat → Nat} {X : Nat → Nat → Prop} {S A : sS} {G : sG} (hX : xR X) (x1 : Int32) (x2 : Int32) (hwho : (S 20 0 6).toInt < 16) (hen : 0 ≤ (S 20 0 34).toInt ∧ (S 20 0 34).toInt ≤ 300) : Met l y7_giveBack (.code y7_giveBack b7_giveBack 4 (some .int) :: wall) (rmk 2) (s_Pc [.ref (ad 20 0), .int x1, .int x2] D aC ad X S A G) (s_Qi D aC ad X G (O7_giveBack S A G x1 x2)) 0 0 (s_N ad X) :=
  s_met (by decide) rfl (Nat.le_of_ble_eq_true rfl) (fun p e s m args below meth c C0 hB ls hl => k7_giveBack_0 C0 hB hX x1 x2 hwho hen hl rfl)

def V7_chosen_4 (G : sG) (x1 : Int32) : Nat → sS → sS → Int32 → Nat → Int32
  | 0, S, A, _, _ => 0
  | r + 1, S, A, z2, j3 => if 64 ≤ nI j3 then z2 else if A 35 0 j3 = x1 then if V7_givableOf S A G (nI j3) ≤ 0 then V7_chosen_4 G x1 r S A z2 (j3 + 1) else if z2 < 0 then V7_chosen_4 G x1 r S A (nI j3) (j3 + 1) else if V7_firstOf S A G z2 ≤ V7_firstOf S A G (nI j3) then V7_chosen_4 G x1 r S A z2 (j3 + 1) else V7_chosen_4 G x1 r S A (nI j3) (j3 + 1) else V7_chosen_4 G x1 r S A z2 (j3 + 1)
def V7_chosen (S A : sS) (G : sG) (x1 : Int32) : Int32 := V7_chosen_4 G x1 65 S A (-1) 0
set_option maxRecDepth 100000 in
set_option maxHeartbeats 4000000 in
theorem k7_chosen_4 {p : Program} {l : Launch} {e : Env} {s : State} {m : MethodId} {args : Array Value} {below : List Frame} {meth : Method} {c : Code} {D : va_G} {aC : Nat → ClassId} {ad : Nat → Nat → Nat} {X : Nat → Nat → Prop} {G : sG} {S A : sS} (C0 : s_C p s m args meth c b7_chosen 5 R7 (some .int) D aC) (hB : s_B D aC ad X (s_N ad X) S A G s.heap s.heap []) (hX : xR X) (x1 : Int32) (hlo : ∀ i, i < 64 → 0 ≤ (A 36 0 i).toInt ∧ (A 36 0 i).toInt ≤ 6) : ∀ (r : Nat) (z2 : Int32) (j3 : Nat) (hj : j3 ≤ 64) (hr3 : 64 < j3 + r) (hbe : -1 ≤ z2.toInt ∧ z2.toInt < 64) {ls : Array Slot} (hl : lv_has ls 5 [(0, .ref (ad 20 0)), (1, .int x1), (2, .int z2), (3, .int (nI j3))]) {o : Int32} (hO : V7_chosen_4 G x1 r S A z2 j3 = o), W p l e (rmk 1) s m args below meth c s.heap [] 0 0 (MQ below (s_Qp o) args s 0 0 (fun _ => False)) (F0 m 4 ls []) := by
  obtain ⟨hx, hb, hml, hown, hw, hK, hr, hlocks⟩ := id C0
  intro r
  induction r with
  | zero =>
    intro z2 j3 hj hr3 hbe ls hl o hO
    exact absurd hr3 (by omega)
  | succ r ih =>
    intro z2 j3 hj hr3 hbe ls hl o hO
    rw [V7_chosen_4] at hO
    refine lv_iload_n hx hb d7_chosen_4 rfl (lv_at hl 3 rfl) ?_
    refine lv_bipush (v := 64) hx hb d7_chosen_5 (by decide) ?_
    refine lv_icmp_ge (tgt := 69) hx hb d7_chosen_7 (by decide) (fun c_1 => ?_) (fun c_1 => ?_)
    · refine lv_iload_n hx hb d7_chosen_69 rfl (lv_at hl 2 rfl) ?_
      exact se_pi C0 (by rw [if_pos c_1] at hO; exact hO) d7_chosen_70
    · refine lv_aload_n hx hb d7_chosen_10 rfl (lv_at hl 0 rfl) ?_
      refine sr_get (v := .ref (ad 35 0)) hx hb hw hown hK hB 14 (hX 20 (by decide)) cf_20 us7 (by decide) fl_7_45 (rfl) d7_chosen_11 ?_
      refine lv_iload_n hx hb d7_chosen_14 rfl (lv_at hl 3 rfl) ?_
      refine sr_iald (v := A 35 0 j3) hx hb hK hB (hX 35 (by decide)) rfl rfl (vp_in_nI (show j3 < 64 by (have aj3 := nI_toInt (n := j3) (by omega)); (have kc_1 := nle_i c_1); (have l64 : (64 : Int32).toInt = 64 := rfl);  omega) (by decide)) d7_chosen_15 (s_cl (by omega)) ?_
      refine lv_iload_n hx hb d7_chosen_16 rfl (lv_at hl 1 rfl) ?_
      refine lv_icmp_ne (tgt := 32) hx hb d7_chosen_17 (by decide) (fun c_2 => ?_) (fun c_2 => ?_)
      · refine lv_iconst (v := 0) hx hb d7_chosen_32 (by decide) ?_
        refine lv_istore (lv' := [(4, .int 0), (0, .ref (ad 20 0)), (1, .int x1), (2, .int z2), (3, .int (nI j3))]) hx hb d7_chosen_33 hl (by decide) rfl (fun ls hl => ?_)
        refine lv_iload hx hb d7_chosen_35 (lv_at hl 0 rfl) ?_
        refine lv_if_eq (tgt := 61) hx hb d7_chosen_37 (by decide) (fun _ => ?_) (fun c => absurd (by decide) c)
        refine lv_iload_n hx hb d7_chosen_61 rfl (lv_at hl 3 rfl) ?_
        refine lv_istore_n (lv' := [(2, .int z2), (4, .int 0), (0, .ref (ad 20 0)), (1, .int x1), (3, .int (nI j3))]) hx hb d7_chosen_62 rfl hl (by decide) rfl (fun ls hl => ?_)
        refine lv_iinc (v := nI (j3 + 1)) (lv' := [(3, .int (nI (j3 + 1))), (2, .int z2), (4, .int 0), (0, .ref (ad 20 0)), (1, .int x1)]) hx hb d7_chosen_63 hl (k := 4) rfl (nI_1 j3) (by decide) rfl (fun ls hl => ?_)
        refine lv_goto (tgt := 4) hx hb d7_chosen_66 (by decide) ?_
        exact ih z2 (j3 + 1) (by (have aj3 := nI_toInt (n := j3) (by omega)); (have kc_1 := nle_i c_1); (have l64 : (64 : Int32).toInt = 64 := rfl);  omega) (by (have aj3 := nI_toInt (n := j3) (by omega)); (have kc_1 := nle_i c_1); (have l64 : (64 : Int32).toInt = 64 := rfl);  omega) (by (have aj3 := nI_toInt (n := j3) (by omega)); (have kc_1 := nle_i c_1); (have l64 : (64 : Int32).toInt = 64 := rfl);  omega) (lv_sub hl [3, 4, 1, 0] rfl) (by rw [if_neg c_1, if_neg c_2] at hO; exact hO)
      · refine lv_aload_n hx hb d7_chosen_20 rfl (lv_at hl 0 rfl) ?_
        refine lv_iload_n hx hb d7_chosen_21 rfl (lv_at hl 3 rfl) ?_
        refine sr_vp C0 hB (m7_givableOf hX (nI j3) (by (have aj3 := nI_toInt (n := j3) (by omega)); (have kc_1 := nle_i c_1); (have l64 : (64 : Int32).toInt = 64 := rfl);  first | assumption | omega) (by (have aj3 := nI_toInt (n := j3) (by omega)); (have kc_1 := nle_i c_1); (have l64 : (64 : Int32).toInt = 64 := rfl);  first | assumption | omega)) (hX 20 (by decide)) cf_20 ml_7_133 im_7_givableOf se_7_givableOf in_7 cd_7_givableOf hd7_givableOf ⟨⟨rfl, rfl⟩, by decide, by decide⟩ ⟨Nat.zero_le _, Nat.zero_le _⟩ hl.1 rfl (Nat.le_of_ble_eq_true rfl) d7_chosen_22 ?_
        refine lv_if_le (tgt := 32) hx hb d7_chosen_25 (by decide) (fun c_4 => ?_) (fun c_4 => ?_)
        · refine lv_iconst (v := 0) hx hb d7_chosen_32 (by decide) ?_
          refine lv_istore (lv' := [(4, .int 0), (0, .ref (ad 20 0)), (1, .int x1), (2, .int z2), (3, .int (nI j3))]) hx hb d7_chosen_33 hl (by decide) rfl (fun ls hl => ?_)
          refine lv_iload hx hb d7_chosen_35 (lv_at hl 0 rfl) ?_
          refine lv_if_eq (tgt := 61) hx hb d7_chosen_37 (by decide) (fun _ => ?_) (fun c => absurd (by decide) c)
          refine lv_iload_n hx hb d7_chosen_61 rfl (lv_at hl 3 rfl) ?_
          refine lv_istore_n (lv' := [(2, .int z2), (4, .int 0), (0, .ref (ad 20 0)), (1, .int x1), (3, .int (nI j3))]) hx hb d7_chosen_62 rfl hl (by decide) rfl (fun ls hl => ?_)
          refine lv_iinc (v := nI (j3 + 1)) (lv' := [(3, .int (nI (j3 + 1))), (2, .int z2), (4, .int 0), (0, .ref (ad 20 0)), (1, .int x1)]) hx hb d7_chosen_63 hl (k := 4) rfl (nI_1 j3) (by decide) rfl (fun ls hl => ?_)
          refine lv_goto (tgt := 4) hx hb d7_chosen_66 (by decide) ?_
          exact ih z2 (j3 + 1) (by (have aj3 := nI_toInt (n := j3) (by omega)); (have kc_1 := nle_i c_1); (have l64 : (64 : Int32).toInt = 64 := rfl);  omega) (by (have aj3 := nI_toInt (n := j3) (by omega)); (have kc_1 := nle_i c_1); (have l64 : (64 : Int32).toInt = 64 := rfl);  omega) (by (have aj3 := nI_toInt (n := j3) (by omega)); (have kc_1 := nle_i c_1); (have l64 : (64 : Int32).toInt = 64 := rfl);  omega) (lv_sub hl [3, 4, 1, 0] rfl) (by rw [if_neg c_1, if_pos c_2, if_pos c_4] at hO; exact hO)
        · refine lv_iconst (v := 1) hx hb d7_chosen_28 (by decide) ?_
          refine lv_goto (tgt := 33) hx hb d7_chosen_29 (by decide) ?_
          refine lv_istore (lv' := [(4, .int 1), (0, .ref (ad 20 0)), (1, .int x1), (2, .int z2), (3, .int (nI j3))]) hx hb d7_chosen_33 hl (by decide) rfl (fun ls hl => ?_)
          refine lv_iload hx hb d7_chosen_35 (lv_at hl 0 rfl) ?_
          refine lv_if_eq (tgt := 61) hx hb d7_chosen_37 (by decide) (fun c => absurd c (by decide)) (fun _ => ?_)
          refine lv_iload_n hx hb d7_chosen_40 rfl (lv_at hl 3 rfl) ?_
          refine lv_if_lt (tgt := 57) hx hb d7_chosen_41 (by decide) (fun c_7 => ?_) (fun c_7 => ?_)
          · refine lv_iload_n hx hb d7_chosen_57 rfl (lv_at hl 4 rfl) ?_
            refine lv_goto (tgt := 62) hx hb d7_chosen_58 (by decide) ?_
            refine lv_istore_n (lv' := [(2, .int (nI j3)), (4, .int 1), (0, .ref (ad 20 0)), (1, .int x1), (3, .int (nI j3))]) hx hb d7_chosen_62 rfl hl (by decide) rfl (fun ls hl => ?_)
            refine lv_iinc (v := nI (j3 + 1)) (lv' := [(3, .int (nI (j3 + 1))), (2, .int (nI j3)), (4, .int 1), (0, .ref (ad 20 0)), (1, .int x1)]) hx hb d7_chosen_63 hl (k := 4) rfl (nI_1 j3) (by decide) rfl (fun ls hl => ?_)
            refine lv_goto (tgt := 4) hx hb d7_chosen_66 (by decide) ?_
            exact ih (nI j3) (j3 + 1) (by (have aj3 := nI_toInt (n := j3) (by omega)); (have kc_1 := nle_i c_1); (have kc_7 := lt_i c_7); (have l0 : (0 : Int32).toInt = 0 := rfl); (have l64 : (64 : Int32).toInt = 64 := rfl);  omega) (by (have aj3 := nI_toInt (n := j3) (by omega)); (have kc_1 := nle_i c_1); (have kc_7 := lt_i c_7); (have l0 : (0 : Int32).toInt = 0 := rfl); (have l64 : (64 : Int32).toInt = 64 := rfl);  omega) (by (have aj3 := nI_toInt (n := j3) (by omega)); (have kc_1 := nle_i c_1); (have kc_7 := lt_i c_7); (have l0 : (0 : Int32).toInt = 0 := rfl); (have l64 : (64 : Int32).toInt = 64 := rfl);  omega) (lv_sub hl [3, 4, 1, 0] rfl) (by rw [if_neg c_1, if_pos c_2, if_neg c_4, if_pos c_7] at hO; exact hO)
          · refine lv_aload_n hx hb d7_chosen_44 rfl (lv_at hl 1 rfl) ?_
            refine lv_iload_n hx hb d7_chosen_45 rfl (lv_at hl 4 rfl) ?_
            refine sr_vp C0 hB (m7_firstOf hX (nI j3) (by (have aj3 := nI_toInt (n := j3) (by omega)); (have kc_1 := nle_i c_1); (have l64 : (64 : Int32).toInt = 64 := rfl);  first | assumption | omega) (by (have aj3 := nI_toInt (n := j3) (by omega)); (have kc_1 := nle_i c_1); (have l64 : (64 : Int32).toInt = 64 := rfl);  first | assumption | omega)) (hX 20 (by decide)) cf_20 ml_7_137 im_7_firstOf se_7_firstOf in_7 cd_7_firstOf hd7_firstOf ⟨⟨rfl, rfl⟩, by decide, by decide⟩ ⟨Nat.zero_le _, Nat.zero_le _⟩ hl.1 rfl (Nat.le_of_ble_eq_true rfl) d7_chosen_46 ?_
            refine lv_aload_n hx hb d7_chosen_49 rfl (lv_at hl 1 rfl) ?_
            refine lv_iload_n hx hb d7_chosen_50 rfl (lv_at hl 3 rfl) ?_
            refine sr_vp C0 hB (m7_firstOf hX z2 (by (have aj3 := nI_toInt (n := j3) (by omega)); (have kc_7 := nlt_i c_7); (have l0 : (0 : Int32).toInt = 0 := rfl);  first | assumption | omega) (by (have aj3 := nI_toInt (n := j3) (by omega)); (have kc_7 := nlt_i c_7); (have l0 : (0 : Int32).toInt = 0 := rfl);  first | assumption | omega)) (hX 20 (by decide)) cf_20 ml_7_137 im_7_firstOf se_7_firstOf in_7 cd_7_firstOf hd7_firstOf ⟨⟨rfl, rfl⟩, by decide, by decide⟩ ⟨Nat.zero_le _, Nat.zero_le _⟩ hl.1 rfl (Nat.le_of_ble_eq_true rfl) d7_chosen_51 ?_
            refine lv_icmp_ge (tgt := 61) hx hb d7_chosen_54 (by decide) (fun c_8 => ?_) (fun c_8 => ?_)
            · refine lv_iload_n hx hb d7_chosen_61 rfl (lv_at hl 3 rfl) ?_
              refine lv_istore_n (lv' := [(2, .int z2), (4, .int 1), (0, .ref (ad 20 0)), (1, .int x1), (3, .int (nI j3))]) hx hb d7_chosen_62 rfl hl (by decide) rfl (fun ls hl => ?_)
              refine lv_iinc (v := nI (j3 + 1)) (lv' := [(3, .int (nI (j3 + 1))), (2, .int z2), (4, .int 1), (0, .ref (ad 20 0)), (1, .int x1)]) hx hb d7_chosen_63 hl (k := 4) rfl (nI_1 j3) (by decide) rfl (fun ls hl => ?_)
              refine lv_goto (tgt := 4) hx hb d7_chosen_66 (by decide) ?_
              exact ih z2 (j3 + 1) (by (have aj3 := nI_toInt (n := j3) (by omega)); (have kc_1 := nle_i c_1); (have kc_7 := nlt_i c_7); (have kc_8 := le_i c_8); (have l0 : (0 : Int32).toInt = 0 := rfl); (have l64 : (64 : Int32).toInt = 64 := rfl);  omega) (by (have aj3 := nI_toInt (n := j3) (by omega)); (have kc_1 := nle_i c_1); (have kc_7 := nlt_i c_7); (have kc_8 := le_i c_8); (have l0 : (0 : Int32).toInt = 0 := rfl); (have l64 : (64 : Int32).toInt = 64 := rfl);  omega) (by (have aj3 := nI_toInt (n := j3) (by omega)); (have kc_1 := nle_i c_1); (have kc_7 := nlt_i c_7); (have kc_8 := le_i c_8); (have l0 : (0 : Int32).toInt = 0 := rfl); (have l64 : (64 : Int32).toInt = 64 := rfl);  omega) (lv_sub hl [3, 4, 1, 0] rfl) (by rw [if_neg c_1, if_pos c_2, if_neg c_4, if_neg c_7, if_pos c_8] at hO; exact hO)
            · refine lv_iload_n hx hb d7_chosen_57 rfl (lv_at hl 4 rfl) ?_
              refine lv_goto (tgt := 62) hx hb d7_chosen_58 (by decide) ?_
              refine lv_istore_n (lv' := [(2, .int (nI j3)), (4, .int 1), (0, .ref (ad 20 0)), (1, .int x1), (3, .int (nI j3))]) hx hb d7_chosen_62 rfl hl (by decide) rfl (fun ls hl => ?_)
              refine lv_iinc (v := nI (j3 + 1)) (lv' := [(3, .int (nI (j3 + 1))), (2, .int (nI j3)), (4, .int 1), (0, .ref (ad 20 0)), (1, .int x1)]) hx hb d7_chosen_63 hl (k := 4) rfl (nI_1 j3) (by decide) rfl (fun ls hl => ?_)
              refine lv_goto (tgt := 4) hx hb d7_chosen_66 (by decide) ?_
              exact ih (nI j3) (j3 + 1) (by (have aj3 := nI_toInt (n := j3) (by omega)); (have kc_1 := nle_i c_1); (have kc_7 := nlt_i c_7); (have kc_8 := nle_i c_8); (have l0 : (0 : Int32).toInt = 0 := rfl); (have l64 : (64 : Int32).toInt = 64 := rfl);  omega) (by (have aj3 := nI_toInt (n := j3) (by omega)); (have kc_1 := nle_i c_1); (have kc_7 := nlt_i c_7); (have kc_8 := nle_i c_8); (have l0 : (0 : Int32).toInt = 0 := rfl); (have l64 : (64 : Int32).toInt = 64 := rfl);  omega) (by (have aj3 := nI_toInt (n := j3) (by omega)); (have kc_1 := nle_i c_1); (have kc_7 := nlt_i c_7); (have kc_8 := nle_i c_8); (have l0 : (0 : Int32).toInt = 0 := rfl); (have l64 : (64 : Int32).toInt = 64 := rfl);  omega) (lv_sub hl [3, 4, 1, 0] rfl) (by rw [if_neg c_1, if_pos c_2, if_neg c_4, if_neg c_7, if_neg c_8] at hO; exact hO)
set_option maxRecDepth 100000 in
set_option maxHeartbeats 4000000 in
theorem k7_chosen_0 {p : Program} {l : Launch} {e : Env} {s : State} {m : MethodId} {args : Array Value} {below : List Frame} {meth : Method} {c : Code} {D : va_G} {aC : Nat → ClassId} {ad : Nat → Nat → Nat} {X : Nat → Nat → Prop} {S A : sS} {G : sG} (C0 : s_C p s m args meth c b7_chosen 5 R7 (some .int) D aC) (hB : s_B D aC ad X (s_N ad X) S A G s.heap s.heap []) (hX : xR X) (x1 : Int32) (hlo : ∀ i, i < 64 → 0 ≤ (A 36 0 i).toInt ∧ (A 36 0 i).toInt ≤ 6) {ls : Array Slot} (hl : lv_has ls 5 [(0, .ref (ad 20 0)), (1, .int x1)]) {o : Int32} (hO : V7_chosen S A G x1 = o) : W p l e (rmk 1) s m args below meth c s.heap [] 0 0 (MQ below (s_Qp o) args s 0 0 (fun _ => False)) (F0 m 0 ls []) := by
  obtain ⟨hx, hb, hml, hown, hw, hK, hr, hlocks⟩ := id C0
  unfold V7_chosen at hO
  refine lv_iconst (v := (-1)) hx hb d7_chosen_0 (by decide) ?_
  refine lv_istore_n (lv' := [(2, .int (-1)), (0, .ref (ad 20 0)), (1, .int x1)]) hx hb d7_chosen_1 rfl hl (by decide) rfl (fun ls hl => ?_)
  refine lv_iconst (v := 0) hx hb d7_chosen_2 (by decide) ?_
  refine lv_istore_n (lv' := [(3, .int 0), (2, .int (-1)), (0, .ref (ad 20 0)), (1, .int x1)]) hx hb d7_chosen_3 rfl hl (by decide) rfl (fun ls hl => ?_)
  exact k7_chosen_4 C0 hB hX x1 hlo 65 (-1) 0 (by (have lx1 := ln1);  omega) (by (have lx1 := ln1);  omega) (by (have lx1 := ln1);  omega) (lv_sub hl [2, 3, 1, 0] rfl) (hO)
theorem hd7_chosen : y7_chosen.cls = R7 ∧ y7_chosen.cls ≠ "java/lang/invoke/MethodHandle" ∧ y7_chosen.cls ≠ "java/lang/invoke/VarHandle" ∧ (parseMethodDescriptor y7_chosen.desc).map (fun d => d.parameters.length) = some 1 := ⟨rfl, by decide, by decide, by decide +kernel⟩
theorem m7_chosen {l : Launch} {D : va_G} {aC : Nat → ClassId} {ad : Nat → Nat → Nat} {X : Nat → Nat → Prop} {S A : sS} {G : sG} (hX : xR X) (x1 : Int32) (hlo : ∀ i, i < 64 → 0 ≤ (A 36 0 i).toInt ∧ (A 36 0 i).toInt ≤ 6) : Met l y7_chosen (.code y7_chosen b7_chosen 5 (some .int) :: wall) (rmk 1) (s_Pc [.ref (ad 20 0), .int x1] D aC ad X S A G) (s_Qp (V7_chosen S A G x1)) 0 0 (fun _ => False) :=
  s_met (by decide) rfl (Nat.le_of_ble_eq_true rfl) (fun p e s m args below meth c C0 hB ls hl => k7_chosen_0 C0 hB hX x1 hlo hl rfl)
