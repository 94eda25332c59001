def O6_login_54 (S A : sS) (G : sG) (x1 : Int32) (x2 : Int32) (z3 : Int32) : Int32 × sS × sS := (0, S, A)
def O6_login_45 (S A : sS) (G : sG) (x1 : Int32) (x2 : Int32) (z3 : Int32) : Int32 × sS × sS := O6_login_54 (O6_accept (up3 S 0 0 9 x1) A G ).1 (O6_accept (up3 S 0 0 9 x1) A G ).2 G x1 x2 z3
def O6_login_34 (S A : sS) (G : sG) (x1 : Int32) (x2 : Int32) (t0 : Int32) : Int32 × sS × sS := if t0 = 0 then O6_login_45 (O6_sendOut S A G ).1 (O6_sendOut S A G ).2 G x1 x2 t0 else (t0, S, A)
def O6_login (S A : sS) (G : sG) (x1 : Int32) (x2 : Int32) : Int32 × sS × sS := if V6_isUser S A G x1 = 0 then ((-1), S, A) else if V4_isOpen S A G  = 0 then O6_login_34 (O6_tryCode S A G (x1.toNatClampNeg) x2).2.1 (O6_tryCode S A G (x1.toNatClampNeg) x2).2.2 G x1 x2 ((O6_tryCode S A G (x1.toNatClampNeg) x2).1) else ((-4), S, A)
set_option maxRecDepth 100000 in
set_option maxHeartbeats 4000000 in
theorem k6_login_54 {p : Program} {l : Launch} {e : Env} {s : State} {m : MethodId} {args : Array Value} {below : List Frame} {meth : Method} {c : Code} {D : va_G} {aC : Nat → ClassId} {ad : Nat → Nat → Nat} {X : Nat → Nat → Prop} {S A : sS} {G : sG} {H : Heap} {locs : List Loc} (C0 : s_C p s m args meth c b6_login 4 R6 (some .int) D aC) (hB : s_B D aC ad X (s_N ad X) S A G s.heap H locs) (hX : xC X G) (x1 : Int32) (x2 : Int32) (z3 : Int32)  {ls : Array Slot} (hl : lv_has ls 4 [(0, .ref (ad 0 0)), (1, .int x1), (2, .int x2), (3, .int z3)]) {o : Int32 × sS × sS} (hO : O6_login_54 S A G x1 x2 z3 = o) : W p l e (rmk 2) s m args below meth c H locs 0 0 (MQ below (s_Qi D aC ad X G o) args s 0 0 (s_N ad X)) (F0 m 54 ls []) := by
  obtain ⟨hx, hb, hml, hown, hw, hK, hr, hlocks⟩ := id C0
  unfold O6_login_54 at hO
  refine lv_iconst (v := 0) hx hb d6_login_54 (by decide) ?_
  exact se_i C0 hB (hO) d6_login_55
set_option maxRecDepth 100000 in
set_option maxHeartbeats 4000000 in
theorem k6_login_45 {p : Program} {l : Launch} {e : Env} {s : State} {m : MethodId} {args : Array Value} {below : List Frame} {meth : Method} {c : Code} {D : va_G} {aC : Nat → ClassId} {ad : Nat → Nat → Nat} {X : Nat → Nat → Prop} {S A : sS} {G : sG} {H : Heap} {locs : List Loc} (C0 : s_C p s m args meth c b6_login 4 R6 (some .int) D aC) (hB : s_B D aC ad X (s_N ad X) S A G s.heap H locs) (hX : xC X G) (x1 : Int32) (x2 : Int32) (z3 : Int32)  {ls : Array Slot} (hl : lv_has ls 4 [(0, .ref (ad 0 0)), (1, .int x1), (2, .int x2), (3, .int z3)]) {o : Int32 × sS × sS} (hO : O6_login_45 S A G x1 x2 z3 = o) : W p l e (rmk 2) s m args below meth c H locs 0 0 (MQ below (s_Qi D aC ad X G o) args s 0 0 (s_N ad X)) (F0 m 45 ls []) := by
  obtain ⟨hx, hb, hml, hown, hw, hK, hr, hlocks⟩ := id C0
  unfold O6_login_45 at hO
  refine lv_aload_n hx hb d6_login_45 rfl (lv_at hl 0 rfl) ?_
  refine lv_iload_n hx hb d6_login_46 rfl (lv_at hl 1 rfl) ?_
  refine sr_put hx hb hw hown hK hB 9 (hX.1 0 (by decide)) cf_0 us6 tk6 nm6 (by decide) fl_6_58 rfl rfl rfl rfl d6_login_47 (fun H locs hB => ?_)
  refine lv_aload_n hx hb d6_login_50 rfl (lv_at hl 0 rfl) ?_
  refine sr_vv C0 hB (m6_accept hX  ) (hX.1 0 (by decide)) cf_0 ml_6_98 im_6_accept se_6_accept in_6 cd_6_accept hd6_accept ⟨⟨rfl, rfl⟩, by decide, by decide⟩ ⟨Nat.zero_le _, Nat.zero_le _⟩ hl.1 rfl (Nat.le_of_ble_eq_true rfl) d6_login_51 (fun H locs hB => ?_)
  exact k6_login_54 C0 hB hX x1 x2 z3  (lv_sub hl [0, 1, 2, 3] rfl) (hO)
set_option maxRecDepth 100000 in
set_option maxHeartbeats 4000000 in
theorem k6_login_34 {p : Program} {l : Launch} {e : Env} {s : State} {m : MethodId} {args : Array Value} {below : List Frame} {meth : Method} {c : Code} {D : va_G} {aC : Nat → ClassId} {ad : Nat → Nat → Nat} {X : Nat → Nat → Prop} {S A : sS} {G : sG} {H : Heap} {locs : List Loc} (C0 : s_C p s m args meth c b6_login 4 R6 (some .int) D aC) (hB : s_B D aC ad X (s_N ad X) S A G s.heap H locs) (hX : xC X G) (x1 : Int32) (x2 : Int32) (t0 : Int32)  {ls : Array Slot} (hl : lv_has ls 4 [(0, .ref (ad 0 0)), (1, .int x1), (2, .int x2)]) {o : Int32 × sS × sS} (hO : O6_login_34 S A G x1 x2 t0 = o) : W p l e (rmk 2) s m args below meth c H locs 0 0 (MQ below (s_Qi D aC ad X G o) args s 0 0 (s_N ad X)) (F0 m 34 ls [.int t0]) := by
  obtain ⟨hx, hb, hml, hown, hw, hK, hr, hlocks⟩ := id C0
  unfold O6_login_34 at hO
  refine lv_istore_n (lv' := [(3, .int t0), (0, .ref (ad 0 0)), (1, .int x1), (2, .int x2)]) hx hb d6_login_34 rfl hl (by decide) rfl (fun ls hl => ?_)
  refine lv_iload_n hx hb d6_login_35 rfl (lv_at hl 0 rfl) ?_
  refine lv_if_eq (tgt := 41) hx hb d6_login_36 (by decide) (fun c_1 => ?_) (fun c_1 => ?_)
  · refine lv_aload_n hx hb d6_login_41 rfl (lv_at hl 1 rfl) ?_
    refine sr_vv C0 hB (m6_sendOut hX  ) (hX.1 0 (by decide)) cf_0 ml_6_95 im_6_sendOut se_6_sendOut in_6 cd_6_sendOut hd6_sendOut ⟨⟨rfl, rfl⟩, by decide, by decide⟩ ⟨Nat.zero_le _, Nat.zero_le _⟩ hl.1 rfl (Nat.le_of_ble_eq_true rfl) d6_login_42 (fun H locs hB => ?_)
    exact k6_login_45 C0 hB hX x1 x2 t0  (lv_sub hl [1, 2, 3, 0] rfl) (by rw [if_pos c_1] at hO; exact hO)
  · refine lv_iload_n hx hb d6_login_39 rfl (lv_at hl 0 rfl) ?_
    exact se_i C0 hB (by rw [if_neg c_1] at hO; exact hO) d6_login_40
set_option maxRecDepth 100000 in
set_option maxHeartbeats 4000000 in
theorem k6_login_0 {p : Program} {l : Launch} {e : Env} {s : State} {m : MethodId} {args : Array Value} {below : List Frame} {meth : Method} {c : Code} {D : va_G} {aC : Nat → ClassId} {ad : Nat → Nat → Nat} {X : Nat → Nat → Prop} {S A : sS} {G : sG} {H : Heap} {locs : List Loc} (C0 : s_C p s m args meth c b6_login 4 R6 (some .int) D aC) (hB : s_B D aC ad X (s_N ad X) S A G s.heap H locs) (hX : xC X G) (x1 : Int32) (x2 : Int32)  {ls : Array Slot} (hl : lv_has ls 4 [(0, .ref (ad 0 0)), (1, .int x1), (2, .int x2)]) {o : Int32 × sS × sS} (hO : O6_login S A G x1 x2 = o) : W p l e (rmk 2) s m args below meth c H locs 0 0 (MQ below (s_Qi D aC ad X G o) args s 0 0 (s_N ad X)) (F0 m 0 ls []) := by
  obtain ⟨hx, hb, hml, hown, hw, hK, hr, hlocks⟩ := id C0
  unfold O6_login at hO
  refine lv_aload_n hx hb d6_login_0 rfl (lv_at hl 0 rfl) ?_
  refine lv_iload_n hx hb d6_login_1 rfl (lv_at hl 1 rfl) ?_
  refine sr_vp C0 hB (m6_isUser hX x1 ) (hX.1 0 (by decide)) cf_0 ml_6_83 im_6_isUser se_6_isUser in_6 cd_6_isUser hd6_isUser ⟨⟨rfl, rfl⟩, by decide, by decide⟩ ⟨Nat.zero_le _, Nat.zero_le _⟩ hl.1 rfl (Nat.le_of_ble_eq_true rfl) d6_login_2 ?_
  refine lv_if_ne (tgt := 10) hx hb d6_login_5 (by decide) (fun c_1 => ?_) (fun c_1 => ?_)
  · refine lv_aload_n hx hb d6_login_10 rfl (lv_at hl 0 rfl) ?_
    refine sr_get (v := .ref (ad 5 0)) hx hb hw hown hK hB 4 (hX.1 0 (by decide)) cf_0 us6 (by decide) fl_6_36 (rfl) d6_login_11 ?_
    refine sr_vp C0 hB (m4_isOpen hX  ) (hX.1 5 (by decide)) cf_5 ml_6_87 im_4_isOpen se_4_isOpen in_4 cd_4_isOpen hd4_isOpen ⟨⟨rfl, rfl⟩, by decide, by decide⟩ ⟨Nat.zero_le _, Nat.zero_le _⟩ hl.1 rfl (Nat.le_of_ble_eq_true rfl) d6_login_14 ?_
    refine lv_if_eq (tgt := 23) hx hb d6_login_17 (by decide) (fun c_2 => ?_) (fun c_2 => ?_)
    · refine lv_aload_n hx hb d6_login_23 rfl (lv_at hl 0 rfl) ?_
      refine lv_aload_n hx hb d6_login_24 rfl (lv_at hl 0 rfl) ?_
      refine sr_get (v := .ref (ad 1 0)) hx hb hw hown hK hB 0 (hX.1 0 (by decide)) cf_0 us6 (by decide) fl_6_11 (rfl) d6_login_25 ?_
      refine lv_iload_n hx hb d6_login_28 rfl (lv_at hl 1 rfl) ?_
      refine sr_aald (v := some (x1.toNatClampNeg)) hx hb hK hB (hX.1 1 (by decide)) rfl rfl rfl (by (refine vp_in_iff.mpr ?_); (show 0 ≤ x1.toInt ∧ x1.toInt < ((16 : Nat) : Int)); (have kc_1 := (isUser_t c_1).1);  omega) d6_login_29 (by exact (gu hX (i := x1.toNatClampNeg) ((isUser_t c_1).2)).1) ?_
      refine lv_iload_n hx hb d6_login_30 rfl (lv_at hl 2 rfl) ?_
      refine sr_vi C0 hB (m6_tryCode hX (x1.toNatClampNeg) x2 (gu hX (i := x1.toNatClampNeg) ((isUser_t c_1).2)).2) (hX.1 0 (by decide)) cf_0 ml_6_91 im_6_tryCode se_6_tryCode in_6 cd_6_tryCode hd6_tryCode ⟨⟨rfl, rfl⟩, by decide, by decide⟩ ⟨Nat.zero_le _, Nat.zero_le _⟩ hl.1 rfl (Nat.le_of_ble_eq_true rfl) d6_login_31 (fun H locs hB => ?_)
      exact k6_login_34 C0 hB hX x1 x2 ((O6_tryCode S A G (x1.toNatClampNeg) x2).1)  (lv_sub hl [0, 1, 2] rfl) (by rw [if_neg c_1, if_pos c_2] at hO; exact hO)
    · refine lv_bipush (v := (-4)) hx hb d6_login_20 (by decide) ?_
      exact se_i C0 hB (by rw [if_neg c_1, if_neg c_2] at hO; exact hO) d6_login_22
  · refine lv_iconst (v := (-1)) hx hb d6_login_8 (by decide) ?_
    exact se_i C0 hB (by rw [if_pos c_1] at hO; exact hO) d6_login_9
theorem hd6_login : y6_login.cls = R6 ∧ y6_login.cls ≠ "java/lang/invoke/MethodHandle" ∧ y6_login.cls ≠ "java/lang/invoke/VarHandle" ∧ (parseMethodDescriptor y6_login.desc).map (fun d => d.parameters.length) = some 2 := ⟨rfl, by decide, by decide, by decide +kernel⟩
theorem m6_login {l : Launch} {D : va_G} {aC : Nat → ClassId} {ad : Nat → Nat → Nat} {X : Nat → Nat → Prop} {S A : sS} {G : sG} (hX : xC X G) (x1 : Int32) (x2 : Int32)  : Met l y6_login (.code y6_login b6_login 4 (some .int) :: wall) (rmk 2) (s_Pc [.ref (ad 0 0), .int x1, .int x2] D aC ad X S A G) (s_Qi D aC ad X G (O6_login S A G x1 x2)) 0 0 (s_N ad X) :=
  s_met (by decide) rfl (Nat.le_of_ble_eq_true rfl) (fun p e s m args below meth c C0 hB ls hl => k6_login_0 C0 hB hX x1 x2  hl rfl)

def O6_logout_33 (S A : sS) (G : sG) (z1 : Int32) : Int32 × sS × sS := (z1, S, A)
def O6_logout (S A : sS) (G : sG)  : Int32 × sS × sS := if S 0 0 9 = (-1) then ((-2), S, A) else if V4_isOpen S A G  = 0 then O6_logout_33 (O6_sendOut S A G ).1 (O6_sendOut S A G ).2 G (S 0 0 9) else ((-4), S, A)
set_option maxRecDepth 100000 in
set_option maxHeartbeats 4000000 in
theorem k6_logout_33 {p : Program} {l : Launch} {e : Env} {s : State} {m : MethodId} {args : Array Value} {below : List Frame} {meth : Method} {c : Code} {D : va_G} {aC : Nat → ClassId} {ad : Nat → Nat → Nat} {X : Nat → Nat → Prop} {S A : sS} {G : sG} {H : Heap} {locs : List Loc} (C0 : s_C p s m args meth c b6_logout 2 R6 (some .int) D aC) (hB : s_B D aC ad X (s_N ad X) S A G s.heap H locs) (hX : xC X G) (z1 : Int32)  {ls : Array Slot} (hl : lv_has ls 2 [(0, .ref (ad 0 0)), (1, .int z1)]) {o : Int32 × sS × sS} (hO : O6_logout_33 S A G z1 = o) : W p l e (rmk 1) s m args below meth c H locs 0 0 (MQ below (s_Qi D aC ad X G o) args s 0 0 (s_N ad X)) (F0 m 33 ls []) := by
  obtain ⟨hx, hb, hml, hown, hw, hK, hr, hlocks⟩ := id C0
  unfold O6_logout_33 at hO
  refine lv_iload_n hx hb d6_logout_33 rfl (lv_at hl 1 rfl) ?_
  exact se_i C0 hB (hO) d6_logout_34
set_option maxRecDepth 100000 in
set_option maxHeartbeats 4000000 in
theorem k6_logout_0 {p : Program} {l : Launch} {e : Env} {s : State} {m : MethodId} {args : Array Value} {below : List Frame} {meth : Method} {c : Code} {D : va_G} {aC : Nat → ClassId} {ad : Nat → Nat → Nat} {X : Nat → Nat → Prop} {S A : sS} {G : sG} {H : Heap} {locs : List Loc} (C0 : s_C p s m args meth c b6_logout 2 R6 (some .int) D aC) (hB : s_B D aC ad X (s_N ad X) S A G s.heap H locs) (hX : xC X G)   {ls : Array Slot} (hl : lv_has ls 2 [(0, .ref (ad 0 0))]) {o : Int32 × sS × sS} (hO : O6_logout S A G  = o) : W p l e (rmk 1) s m args below meth c H locs 0 0 (MQ below (s_Qi D aC ad X G o) args s 0 0 (s_N ad X)) (F0 m 0 ls []) := by
  obtain ⟨hx, hb, hml, hown, hw, hK, hr, hlocks⟩ := id C0
  unfold O6_logout at hO
  refine lv_aload_n hx hb d6_logout_0 rfl (lv_at hl 0 rfl) ?_
  refine sr_get (v := .int (S 0 0 9)) hx hb hw hown hK hB 9 (hX.1 0 (by decide)) cf_0 us6 (by decide) fl_6_58 (rfl) d6_logout_1 ?_
  refine lv_iconst (v := (-1)) hx hb d6_logout_4 (by decide) ?_
  refine lv_icmp_ne (tgt := 11) hx hb d6_logout_5 (by decide) (fun c_1 => ?_) (fun c_1 => ?_)
  · refine lv_aload_n hx hb d6_logout_11 rfl (lv_at hl 0 rfl) ?_
    refine sr_get (v := .ref (ad 5 0)) hx hb hw hown hK hB 4 (hX.1 0 (by decide)) cf_0 us6 (by decide) fl_6_36 (rfl) d6_logout_12 ?_
    refine sr_vp C0 hB (m4_isOpen hX  ) (hX.1 5 (by decide)) cf_5 ml_6_87 im_4_isOpen se_4_isOpen in_4 cd_4_isOpen hd4_isOpen ⟨⟨rfl, rfl⟩, by decide, by decide⟩ ⟨Nat.zero_le _, Nat.zero_le _⟩ hl.1 rfl (Nat.le_of_ble_eq_true rfl) d6_logout_15 ?_
    refine lv_if_eq (tgt := 24) hx hb d6_logout_18 (by decide) (fun c_2 => ?_) (fun c_2 => ?_)
    · refine lv_aload_n hx hb d6_logout_24 rfl (lv_at hl 0 rfl) ?_
      refine sr_get (v := .int (S 0 0 9)) hx hb hw hown hK hB 9 (hX.1 0 (by decide)) cf_0 us6 (by decide) fl_6_58 (rfl) d6_logout_25 ?_
      refine lv_istore_n (lv' := [(1, .int (S 0 0 9)), (0, .ref (ad 0 0))]) hx hb d6_logout_28 rfl hl (by decide) rfl (fun ls hl => ?_)
      refine lv_aload_n hx hb d6_logout_29 rfl (lv_at hl 1 rfl) ?_
      refine sr_vv C0 hB (m6_sendOut hX  ) (hX.1 0 (by decide)) cf_0 ml_6_95 im_6_sendOut se_6_sendOut in_6 cd_6_sendOut hd6_sendOut ⟨⟨rfl, rfl⟩, by decide, by decide⟩ ⟨Nat.zero_le _, Nat.zero_le _⟩ hl.1 rfl (Nat.le_of_ble_eq_true rfl) d6_logout_30 (fun H locs hB => ?_)
      exact k6_logout_33 C0 hB hX (S 0 0 9)  (lv_sub hl [1, 0] rfl) (by rw [if_neg c_1, if_pos c_2] at hO; exact hO)
    · refine lv_bipush (v := (-4)) hx hb d6_logout_21 (by decide) ?_
      exact se_i C0 hB (by rw [if_neg c_1, if_neg c_2] at hO; exact hO) d6_logout_23
  · refine lv_bipush (v := (-2)) hx hb d6_logout_8 (by decide) ?_
    exact se_i C0 hB (by rw [if_pos c_1] at hO; exact hO) d6_logout_10
theorem hd6_logout : y6_logout.cls = R6 ∧ y6_logout.cls ≠ "java/lang/invoke/MethodHandle" ∧ y6_logout.cls ≠ "java/lang/invoke/VarHandle" ∧ (parseMethodDescriptor y6_logout.desc).map (fun d => d.parameters.length) = some 0 := ⟨rfl, by decide, by decide, by decide +kernel⟩
theorem m6_logout {l : Launch} {D : va_G} {aC : Nat → ClassId} {ad : Nat → Nat → Nat} {X : Nat → Nat → Prop} {S A : sS} {G : sG} (hX : xC X G)   : Met l y6_logout (.code y6_logout b6_logout 2 (some .int) :: wall) (rmk 1) (s_Pc [.ref (ad 0 0)] D aC ad X S A G) (s_Qi D aC ad X G (O6_logout S A G )) 0 0 (s_N ad X) :=
  s_met (by decide) rfl (Nat.le_of_ble_eq_true rfl) (fun p e s m args below meth c C0 hB ls hl => k6_logout_0 C0 hB hX   hl rfl)

def O6_witness_67 (S A : sS) (G : sG) (x1 : Int32) (x2 : Int32) (z3 : Int32) : Int32 × sS × sS := (S 0 0 12, S, A)
def O6_witness_40 (S A : sS) (G : sG) (x1 : Int32) (x2 : Int32) (t0 : Int32) : Int32 × sS × sS := if t0 = 0 then O6_witness_67 (O6_accept (up3 (up3 S 0 0 11 x1) 0 0 12 ((S 0 0 8) + 120)) A G ).1 (O6_accept (up3 (up3 S 0 0 11 x1) 0 0 12 ((S 0 0 8) + 120)) A G ).2 G x1 x2 t0 else (t0, S, A)
def O6_witness (S A : sS) (G : sG) (x1 : Int32) (x2 : Int32) : Int32 × sS × sS := if V6_isUser S A G x1 = 0 then ((-1), S, A) else if x1 = S 0 0 9 then ((-1), S, A) else if S 0 0 9 = (-1) then ((-2), S, A) else O6_witness_40 (O6_tryCode S A G (x1.toNatClampNeg) x2).2.1 (O6_tryCode S A G (x1.toNatClampNeg) x2).2.2 G x1 x2 ((O6_tryCode S A G (x1.toNatClampNeg) x2).1)
set_option maxRecDepth 100000 in
set_option maxHeartbeats 4000000 in
theorem k6_witness_67 {p : Program} {l : Launch} {e : Env} {s : State} {m : MethodId} {args : Array Value} {below : List Frame} {meth : Method} {c : Code} {D : va_G} {aC : Nat → ClassId} {ad : Nat → Nat → Nat} {X : Nat → Nat → Prop} {S A : sS} {G : sG} {H : Heap} {locs : List Loc} (C0 : s_C p s m args meth c b6_witness 4 R6 (some .int) D aC) (hB : s_B D aC ad X (s_N ad X) S A G s.heap H locs) (hX : xC X G) (x1 : Int32) (x2 : Int32) (z3 : Int32)  {ls : Array Slot} (hl : lv_has ls 4 [(0, .ref (ad 0 0)), (1, .int x1), (2, .int x2), (3, .int z3)]) {o : Int32 × sS × sS} (hO : O6_witness_67 S A G x1 x2 z3 = o) : W p l e (rmk 2) s m args below meth c H locs 0 0 (MQ below (s_Qi D aC ad X G o) args s 0 0 (s_N ad X)) (F0 m 67 ls []) := by
  obtain ⟨hx, hb, hml, hown, hw, hK, hr, hlocks⟩ := id C0
  unfold O6_witness_67 at hO
  refine lv_aload_n hx hb d6_witness_67 rfl (lv_at hl 0 rfl) ?_
  refine sr_get (v := .int (S 0 0 12)) hx hb hw hown hK hB 12 (hX.1 0 (by decide)) cf_0 us6 (by decide) fl_6_67 (rfl) d6_witness_68 ?_
  exact se_i C0 hB (hO) d6_witness_71
set_option maxRecDepth 100000 in
set_option maxHeartbeats 4000000 in
theorem k6_witness_40 {p : Program} {l : Launch} {e : Env} {s : State} {m : MethodId} {args : Array Value} {below : List Frame} {meth : Method} {c : Code} {D : va_G} {aC : Nat → ClassId} {ad : Nat → Nat → Nat} {X : Nat → Nat → Prop} {S A : sS} {G : sG} {H : Heap} {locs : List Loc} (C0 : s_C p s m args meth c b6_witness 4 R6 (some .int) D aC) (hB : s_B D aC ad X (s_N ad X) S A G s.heap H locs) (hX : xC X G) (x1 : Int32) (x2 : Int32) (t0 : Int32)  {ls : Array Slot} (hl : lv_has ls 4 [(0, .ref (ad 0 0)), (1, .int x1), (2, .int x2)]) {o : Int32 × sS × sS} (hO : O6_witness_40 S A G x1 x2 t0 = o) : W p l e (rmk 2) s m args below meth c H locs 0 0 (MQ below (s_Qi D aC ad X G o) args s 0 0 (s_N ad X)) (F0 m 40 ls [.int t0]) := by
  obtain ⟨hx, hb, hml, hown, hw, hK, hr, hlocks⟩ := id C0
  unfold O6_witness_40 at hO
  refine lv_istore_n (lv' := [(3, .int t0), (0, .ref (ad 0 0)), (1, .int x1), (2, .int x2)]) hx hb d6_witness_40 rfl hl (by decide) rfl (fun ls hl => ?_)
  refine lv_iload_n hx hb d6_witness_41 rfl (lv_at hl 0 rfl) ?_
  refine lv_if_eq (tgt := 47) hx hb d6_witness_42 (by decide) (fun c_1 => ?_) (fun c_1 => ?_)
  · refine lv_aload_n hx hb d6_witness_47 rfl (lv_at hl 1 rfl) ?_
    refine lv_iload_n hx hb d6_witness_48 rfl (lv_at hl 2 rfl) ?_
    refine sr_put hx hb hw hown hK hB 11 (hX.1 0 (by decide)) cf_0 us6 tk6 nm6 (by decide) fl_6_64 rfl rfl rfl rfl d6_witness_49 (fun H locs hB => ?_)
    refine lv_aload_n hx hb d6_witness_52 rfl (lv_at hl 1 rfl) ?_
    refine lv_aload_n hx hb d6_witness_53 rfl (lv_at hl 1 rfl) ?_
    refine sr_get (v := .int (S 0 0 8)) hx hb hw hown hK hB 8 (hX.1 0 (by decide)) cf_0 us6 (by decide) fl_6_54 (rfl) d6_witness_54 ?_
    refine lv_bipush (v := 120) hx hb d6_witness_57 (by decide) ?_
    refine lv_iadd hx hb d6_witness_59 ?_
    refine sr_put hx hb hw hown hK hB 12 (hX.1 0 (by decide)) cf_0 us6 tk6 nm6 (by decide) fl_6_67 rfl rfl rfl rfl d6_witness_60 (fun H locs hB => ?_)
    refine lv_aload_n hx hb d6_witness_63 rfl (lv_at hl 1 rfl) ?_
    refine sr_vv C0 hB (m6_accept hX  ) (hX.1 0 (by decide)) cf_0 ml_6_98 im_6_accept se_6_accept in_6 cd_6_accept hd6_accept ⟨⟨rfl, rfl⟩, by decide, by decide⟩ ⟨Nat.zero_le _, Nat.zero_le _⟩ hl.1 rfl (Nat.le_of_ble_eq_true rfl) d6_witness_64 (fun H locs hB => ?_)
    exact k6_witness_67 C0 hB hX x1 x2 t0  (lv_sub hl [1, 2, 3, 0] rfl) (by rw [if_pos c_1] at hO; exact hO)
  · refine lv_iload_n hx hb d6_witness_45 rfl (lv_at hl 0 rfl) ?_
    exact se_i C0 hB (by rw [if_neg c_1] at hO; exact hO) d6_witness_46
set_option maxRecDepth 100000 in
set_option maxHeartbeats 4000000 in
theorem k6_witness_0 {p : Program} {l : Launch} {e : Env} {s : State} {m : MethodId} {args : Array Value} {below : List Frame} {meth : Method} {c : Code} {D : va_G} {aC : Nat → ClassId} {ad : Nat → Nat → Nat} {X : Nat → Nat → Prop} {S A : sS} {G : sG} {H : Heap} {locs : List Loc} (C0 : s_C p s m args meth c b6_witness 4 R6 (some .int) D aC) (hB : s_B D aC ad X (s_N ad X) S A G s.heap H locs) (hX : xC X G) (x1 : Int32) (x2 : Int32)  {ls : Array Slot} (hl : lv_has ls 4 [(0, .ref (ad 0 0)), (1, .int x1), (2, .int x2)]) {o : Int32 × sS × sS} (hO : O6_witness S A G x1 x2 = o) : W p l e (rmk 2) s m args below meth c H locs 0 0 (MQ below (s_Qi D aC ad X G o) args s 0 0 (s_N ad X)) (F0 m 0 ls []) := by
  obtain ⟨hx, hb, hml, hown, hw, hK, hr, hlocks⟩ := id C0
  unfold O6_witness at hO
  refine lv_aload_n hx hb d6_witness_0 rfl (lv_at hl 0 rfl) ?_
  refine lv_iload_n hx hb d6_witness_1 rfl (lv_at hl 1 rfl) ?_
  refine sr_vp C0 hB (m6_isUser hX x1 ) (hX.1 0 (by decide)) cf_0 ml_6_83 im_6_isUser se_6_isUser in_6 cd_6_isUser hd6_isUser ⟨⟨rfl, rfl⟩, by decide, by decide⟩ ⟨Nat.zero_le _, Nat.zero_le _⟩ hl.1 rfl (Nat.le_of_ble_eq_true rfl) d6_witness_2 ?_
  refine lv_if_eq (tgt := 16) hx hb d6_witness_5 (by decide) (fun c_1 => ?_) (fun c_1 => ?_)
  · refine lv_iconst (v := (-1)) hx hb d6_witness_16 (by decide) ?_
    exact se_i C0 hB (by rw [if_pos c_1] at hO; exact hO) d6_witness_17
  · refine lv_iload_n hx hb d6_witness_8 rfl (lv_at hl 1 rfl) ?_
    refine lv_aload_n hx hb d6_witness_9 rfl (lv_at hl 0 rfl) ?_
    refine sr_get (v := .int (S 0 0 9)) hx hb hw hown hK hB 9 (hX.1 0 (by decide)) cf_0 us6 (by decide) fl_6_58 (rfl) d6_witness_10 ?_
    refine lv_icmp_ne (tgt := 18) hx hb d6_witness_13 (by decide) (fun c_2 => ?_) (fun c_2 => ?_)
    · refine lv_aload_n hx hb d6_witness_18 rfl (lv_at hl 0 rfl) ?_
      refine sr_get (v := .int (S 0 0 9)) hx hb hw hown hK hB 9 (hX.1 0 (by decide)) cf_0 us6 (by decide) fl_6_58 (rfl) d6_witness_19 ?_
      refine lv_iconst (v := (-1)) hx hb d6_witness_22 (by decide) ?_
      refine lv_icmp_ne (tgt := 29) hx hb d6_witness_23 (by decide) (fun c_3 => ?_) (fun c_3 => ?_)
      · refine lv_aload_n hx hb d6_witness_29 rfl (lv_at hl 0 rfl) ?_
        refine lv_aload_n hx hb d6_witness_30 rfl (lv_at hl 0 rfl) ?_
        refine sr_get (v := .ref (ad 1 0)) hx hb hw hown hK hB 0 (hX.1 0 (by decide)) cf_0 us6 (by decide) fl_6_11 (rfl) d6_witness_31 ?_
        refine lv_iload_n hx hb d6_witness_34 rfl (lv_at hl 1 rfl) ?_
        refine sr_aald (v := some (x1.toNatClampNeg)) hx hb hK hB (hX.1 1 (by decide)) rfl rfl rfl (by (refine vp_in_iff.mpr ?_); (show 0 ≤ x1.toInt ∧ x1.toInt < ((16 : Nat) : Int)); (have kc_1 := (isUser_t c_1).1); (have kc_2 := ne_i c_2); (have l0 : (0 : Int32).toInt = 0 := rfl); (have l9 : (9 : Int32).toInt = 9 := rfl);  omega) d6_witness_35 (by exact (gu hX (i := x1.toNatClampNeg) ((isUser_t c_1).2)).1) ?_
        refine lv_iload_n hx hb d6_witness_36 rfl (lv_at hl 2 rfl) ?_
        refine sr_vi C0 hB (m6_tryCode hX (x1.toNatClampNeg) x2 (gu hX (i := x1.toNatClampNeg) ((isUser_t c_1).2)).2) (hX.1 0 (by decide)) cf_0 ml_6_91 im_6_tryCode se_6_tryCode in_6 cd_6_tryCode hd6_tryCode ⟨⟨rfl, rfl⟩, by decide, by decide⟩ ⟨Nat.zero_le _, Nat.zero_le _⟩ hl.1 rfl (Nat.le_of_ble_eq_true rfl) d6_witness_37 (fun H locs hB => ?_)
        exact k6_witness_40 C0 hB hX x1 x2 ((O6_tryCode S A G (x1.toNatClampNeg) x2).1)  (lv_sub hl [0, 1, 2] rfl) (by rw [if_neg c_1, if_neg c_2, if_neg c_3] at hO; exact hO)
      · refine lv_bipush (v := (-2)) hx hb d6_witness_26 (by decide) ?_
        exact se_i C0 hB (by rw [if_neg c_1, if_neg c_2, if_pos c_3] at hO; exact hO) d6_witness_28
    · refine lv_iconst (v := (-1)) hx hb d6_witness_16 (by decide) ?_
      exact se_i C0 hB (by rw [if_neg c_1, if_pos c_2] at hO; exact hO) d6_witness_17
theorem hd6_witness : y6_witness.cls = R6 ∧ y6_witness.cls ≠ "java/lang/invoke/MethodHandle" ∧ y6_witness.cls ≠ "java/lang/invoke/VarHandle" ∧ (parseMethodDescriptor y6_witness.desc).map (fun d => d.parameters.length) = some 2 := ⟨rfl, by decide, by decide, by decide +kernel⟩
theorem m6_witness {l : Launch} {D : va_G} {aC : Nat → ClassId} {ad : Nat → Nat → Nat} {X : Nat → Nat → Prop} {S A : sS} {G : sG} (hX : xC X G) (x1 : Int32) (x2 : Int32)  : Met l y6_witness (.code y6_witness b6_witness 4 (some .int) :: wall) (rmk 2) (s_Pc [.ref (ad 0 0), .int x1, .int x2] D aC ad X S A G) (s_Qi D aC ad X G (O6_witness S A G x1 x2)) 0 0 (s_N ad X) :=
  s_met (by decide) rfl (Nat.le_of_ble_eq_true rfl) (fun p e s m args below meth c C0 hB ls hl => k6_witness_0 C0 hB hX x1 x2  hl rfl)

def O6_tick_68 (S A : sS) (G : sG) (x1 : Int32) : Int32 × sS × sS := (S 0 0 8, S, A)
def O6_tick (S A : sS) (G : sG) (x1 : Int32) : Int32 × sS × sS := if x1 < 1 then ((-1), S, A) else if x1 ≤ 1000 then if (S 0 0 8) + x1 < S 0 0 12 then if V4_isOpen (up3 S 0 0 8 ((S 0 0 8) + x1)) A G  = 0 then if ((S 0 0 8) + x1) - (S 0 0 10) < 120 then ((S 0 0 8) + x1, (up3 S 0 0 8 ((S 0 0 8) + x1)), A) else O6_tick_68 (O6_sendOut (up3 S 0 0 8 ((S 0 0 8) + x1)) A G ).1 (O6_sendOut (up3 S 0 0 8 ((S 0 0 8) + x1)) A G ).2 G x1 else ((S 0 0 8) + x1, (up3 S 0 0 8 ((S 0 0 8) + x1)), A) else if V4_isOpen (up3 (up3 S 0 0 8 ((S 0 0 8) + x1)) 0 0 11 (-1)) A G  = 0 then if ((S 0 0 8) + x1) - (S 0 0 10) < 120 then O6_tick_68 (up3 (up3 S 0 0 8 ((S 0 0 8) + x1)) 0 0 11 (-1)) A G x1 else O6_tick_68 (O6_sendOut (up3 (up3 S 0 0 8 ((S 0 0 8) + x1)) 0 0 11 (-1)) A G ).1 (O6_sendOut (up3 (up3 S 0 0 8 ((S 0 0 8) + x1)) 0 0 11 (-1)) A G ).2 G x1 else O6_tick_68 (up3 (up3 S 0 0 8 ((S 0 0 8) + x1)) 0 0 11 (-1)) A G x1 else ((-1), S, A)
set_option maxRecDepth 100000 in
set_option maxHeartbeats 4000000 in
theorem k6_tick_68 {p : Program} {l : Launch} {e : Env} {s : State} {m : MethodId} {args : Array Value} {below : List Frame} {meth : Method} {c : Code} {D : va_G} {aC : Nat → ClassId} {ad : Nat → Nat → Nat} {X : Nat → Nat → Prop} {S A : sS} {G : sG} {H : Heap} {locs : List Loc} (C0 : s_C p s m args meth c b6_tick 2 R6 (some .int) D aC) (hB : s_B D aC ad X (s_N ad X) S A G s.heap H locs) (hX : xC X G) (x1 : Int32)  {ls : Array Slot} (hl : lv_has ls 2 [(0, .ref (ad 0 0)), (1, .int x1)]) {o : Int32 × sS × sS} (hO : O6_tick_68 S A G x1 = o) : W p l e (rmk 1) s m args below meth c H locs 0 0 (MQ below (s_Qi D aC ad X G o) args s 0 0 (s_N ad X)) (F0 m 68 ls []) := by
  obtain ⟨hx, hb, hml, hown, hw, hK, hr, hlocks⟩ := id C0
  unfold O6_tick_68 at hO
  refine lv_aload_n hx hb d6_tick_68 rfl (lv_at hl 0 rfl) ?_
  refine sr_get (v := .int (S 0 0 8)) hx hb hw hown hK hB 8 (hX.1 0 (by decide)) cf_0 us6 (by decide) fl_6_54 (rfl) d6_tick_69 ?_
  exact se_i C0 hB (hO) d6_tick_72
set_option maxRecDepth 100000 in
set_option maxHeartbeats 4000000 in
theorem k6_tick_0 {p : Program} {l : Launch} {e : Env} {s : State} {m : MethodId} {args : Array Value} {below : List Frame} {meth : Method} {c : Code} {D : va_G} {aC : Nat → ClassId} {ad : Nat → Nat → Nat} {X : Nat → Nat → Prop} {S A : sS} {G : sG} {H : Heap} {locs : List Loc} (C0 : s_C p s m args meth c b6_tick 2 R6 (some .int) D aC) (hB : s_B D aC ad X (s_N ad X) S A G s.heap H locs) (hX : xC X G) (x1 : Int32)  {ls : Array Slot} (hl : lv_has ls 2 [(0, .ref (ad 0 0)), (1, .int x1)]) {o : Int32 × sS × sS} (hO : O6_tick S A G x1 = o) : W p l e (rmk 1) s m args below meth c H locs 0 0 (MQ below (s_Qi D aC ad X G o) args s 0 0 (s_N ad X)) (F0 m 0 ls []) := by
  obtain ⟨hx, hb, hml, hown, hw, hK, hr, hlocks⟩ := id C0
  unfold O6_tick at hO
  refine lv_iload_n hx hb d6_tick_0 rfl (lv_at hl 1 rfl) ?_
  refine lv_iconst (v := 1) hx hb d6_tick_1 (by decide) ?_
  refine lv_icmp_lt (tgt := 12) hx hb d6_tick_2 (by decide) (fun c_1 => ?_) (fun c_1 => ?_)
  · refine lv_iconst (v := (-1)) hx hb d6_tick_12 (by decide) ?_
    exact se_i C0 hB (by rw [if_pos c_1] at hO; exact hO) d6_tick_13
  · refine lv_iload_n hx hb d6_tick_5 rfl (lv_at hl 1 rfl) ?_
    refine lv_sipush (v := 1000) hx hb d6_tick_6 (by decide) ?_
    refine lv_icmp_le (tgt := 14) hx hb d6_tick_9 (by decide) (fun c_2 => ?_) (fun c_2 => ?_)
    · refine lv_aload_n hx hb d6_tick_14 rfl (lv_at hl 0 rfl) ?_
      refine lv_dup hx hb d6_tick_15 rfl ?_
      refine sr_get (v := .int (S 0 0 8)) hx hb hw hown hK hB 8 (hX.1 0 (by decide)) cf_0 us6 (by decide) fl_6_54 (rfl) d6_tick_16 ?_
      refine lv_iload_n hx hb d6_tick_19 rfl (lv_at hl 1 rfl) ?_
      refine lv_iadd hx hb d6_tick_20 ?_
      refine sr_put hx hb hw hown hK hB 8 (hX.1 0 (by decide)) cf_0 us6 tk6 nm6 (by decide) fl_6_54 rfl rfl rfl rfl d6_tick_21 (fun H locs hB => ?_)
      refine lv_aload_n hx hb d6_tick_24 rfl (lv_at hl 0 rfl) ?_
      refine sr_get (v := .int ((S 0 0 8) + x1)) hx hb hw hown hK hB 8 (hX.1 0 (by decide)) cf_0 us6 (by decide) fl_6_54 (congrArg Value.int (up3_s)) d6_tick_25 ?_
      refine lv_aload_n hx hb d6_tick_28 rfl (lv_at hl 0 rfl) ?_
      refine sr_get (v := .int (S 0 0 12)) hx hb hw hown hK hB 12 (hX.1 0 (by decide)) cf_0 us6 (by decide) fl_6_67 (rfl) d6_tick_29 ?_
      refine lv_icmp_lt (tgt := 40) hx hb d6_tick_32 (by decide) (fun c_3 => ?_) (fun c_3 => ?_)
      · refine lv_aload_n hx hb d6_tick_40 rfl (lv_at hl 0 rfl) ?_
        refine sr_get (v := .ref (ad 5 0)) hx hb hw hown hK hB 4 (hX.1 0 (by decide)) cf_0 us6 (by decide) fl_6_36 (rfl) d6_tick_41 ?_
        refine sr_vp C0 hB (m4_isOpen hX  ) (hX.1 5 (by decide)) cf_5 ml_6_87 im_4_isOpen se_4_isOpen in_4 cd_4_isOpen hd4_isOpen ⟨⟨rfl, rfl⟩, by decide, by decide⟩ ⟨Nat.zero_le _, Nat.zero_le _⟩ hl.1 rfl (Nat.le_of_ble_eq_true rfl) d6_tick_44 ?_
        refine lv_if_ne (tgt := 68) hx hb d6_tick_47 (by decide) (fun c_4 => ?_) (fun c_4 => ?_)
        · refine lv_aload_n hx hb d6_tick_68 rfl (lv_at hl 0 rfl) ?_
          refine sr_get (v := .int ((S 0 0 8) + x1)) hx hb hw hown hK hB 8 (hX.1 0 (by decide)) cf_0 us6 (by decide) fl_6_54 (congrArg Value.int (up3_s)) d6_tick_69 ?_
          exact se_i C0 hB (by rw [if_neg c_1, if_pos c_2, if_pos c_3, if_neg c_4] at hO; exact hO) d6_tick_72
        · refine lv_aload_n hx hb d6_tick_50 rfl (lv_at hl 0 rfl) ?_
          refine sr_get (v := .int ((S 0 0 8) + x1)) hx hb hw hown hK hB 8 (hX.1 0 (by decide)) cf_0 us6 (by decide) fl_6_54 (congrArg Value.int (up3_s)) d6_tick_51 ?_
          refine lv_aload_n hx hb d6_tick_54 rfl (lv_at hl 0 rfl) ?_
          refine sr_get (v := .int (S 0 0 10)) hx hb hw hown hK hB 10 (hX.1 0 (by decide)) cf_0 us6 (by decide) fl_6_61 (rfl) d6_tick_55 ?_
          refine lv_isub hx hb d6_tick_58 ?_
          refine lv_bipush (v := 120) hx hb d6_tick_59 (by decide) ?_
          refine lv_icmp_lt (tgt := 68) hx hb d6_tick_61 (by decide) (fun c_5 => ?_) (fun c_5 => ?_)
          · refine lv_aload_n hx hb d6_tick_68 rfl (lv_at hl 0 rfl) ?_
            refine sr_get (v := .int ((S 0 0 8) + x1)) hx hb hw hown hK hB 8 (hX.1 0 (by decide)) cf_0 us6 (by decide) fl_6_54 (congrArg Value.int (up3_s)) d6_tick_69 ?_
            exact se_i C0 hB (by rw [if_neg c_1, if_pos c_2, if_pos c_3, if_pos c_4, if_pos c_5] at hO; exact hO) d6_tick_72
          · refine lv_aload_n hx hb d6_tick_64 rfl (lv_at hl 0 rfl) ?_
            refine sr_vv C0 hB (m6_sendOut hX  ) (hX.1 0 (by decide)) cf_0 ml_6_95 im_6_sendOut se_6_sendOut in_6 cd_6_sendOut hd6_sendOut ⟨⟨rfl, rfl⟩, by decide, by decide⟩ ⟨Nat.zero_le _, Nat.zero_le _⟩ hl.1 rfl (Nat.le_of_ble_eq_true rfl) d6_tick_65 (fun H locs hB => ?_)
            exact k6_tick_68 C0 hB hX x1  (lv_sub hl [0, 1] rfl) (by rw [if_neg c_1, if_pos c_2, if_pos c_3, if_pos c_4, if_neg c_5] at hO; exact hO)
      · refine lv_aload_n hx hb d6_tick_35 rfl (lv_at hl 0 rfl) ?_
        refine lv_iconst (v := (-1)) hx hb d6_tick_36 (by decide) ?_
        refine sr_put hx hb hw hown hK hB 11 (hX.1 0 (by decide)) cf_0 us6 tk6 nm6 (by decide) fl_6_64 rfl rfl rfl rfl d6_tick_37 (fun H locs hB => ?_)
        refine lv_aload_n hx hb d6_tick_40 rfl (lv_at hl 0 rfl) ?_
        refine sr_get (v := .ref (ad 5 0)) hx hb hw hown hK hB 4 (hX.1 0 (by decide)) cf_0 us6 (by decide) fl_6_36 (rfl) d6_tick_41 ?_
        refine sr_vp C0 hB (m4_isOpen hX  ) (hX.1 5 (by decide)) cf_5 ml_6_87 im_4_isOpen se_4_isOpen in_4 cd_4_isOpen hd4_isOpen ⟨⟨rfl, rfl⟩, by decide, by decide⟩ ⟨Nat.zero_le _, Nat.zero_le _⟩ hl.1 rfl (Nat.le_of_ble_eq_true rfl) d6_tick_44 ?_
        refine lv_if_ne (tgt := 68) hx hb d6_tick_47 (by decide) (fun c_6 => ?_) (fun c_6 => ?_)
        · exact k6_tick_68 C0 hB hX x1  (lv_sub hl [0, 1] rfl) (by rw [if_neg c_1, if_pos c_2, if_neg c_3, if_neg c_6] at hO; exact hO)
        · refine lv_aload_n hx hb d6_tick_50 rfl (lv_at hl 0 rfl) ?_
          refine sr_get (v := .int ((S 0 0 8) + x1)) hx hb hw hown hK hB 8 (hX.1 0 (by decide)) cf_0 us6 (by decide) fl_6_54 (congrArg Value.int (by simp [up3])) d6_tick_51 ?_
          refine lv_aload_n hx hb d6_tick_54 rfl (lv_at hl 0 rfl) ?_
          refine sr_get (v := .int (S 0 0 10)) hx hb hw hown hK hB 10 (hX.1 0 (by decide)) cf_0 us6 (by decide) fl_6_61 (rfl) d6_tick_55 ?_
          refine lv_isub hx hb d6_tick_58 ?_
          refine lv_bipush (v := 120) hx hb d6_tick_59 (by decide) ?_
          refine lv_icmp_lt (tgt := 68) hx hb d6_tick_61 (by decide) (fun c_7 => ?_) (fun c_7 => ?_)
          · exact k6_tick_68 C0 hB hX x1  (lv_sub hl [0, 1] rfl) (by rw [if_neg c_1, if_pos c_2, if_neg c_3, if_pos c_6, if_pos c_7] at hO; exact hO)
          · refine lv_aload_n hx hb d6_tick_64 rfl (lv_at hl 0 rfl) ?_
            refine sr_vv C0 hB (m6_sendOut hX  ) (hX.1 0 (by decide)) cf_0 ml_6_95 im_6_sendOut se_6_sendOut in_6 cd_6_sendOut hd6_sendOut ⟨⟨rfl, rfl⟩, by decide, by decide⟩ ⟨Nat.zero_le _, Nat.zero_le _⟩ hl.1 rfl (Nat.le_of_ble_eq_true rfl) d6_tick_65 (fun H locs hB => ?_)
            exact k6_tick_68 C0 hB hX x1  (lv_sub hl [0, 1] rfl) (by rw [if_neg c_1, if_pos c_2, if_neg c_3, if_pos c_6, if_neg c_7] at hO; exact hO)
    · refine lv_iconst (v := (-1)) hx hb d6_tick_12 (by decide) ?_
      exact se_i C0 hB (by rw [if_neg c_1, if_neg c_2] at hO; exact hO) d6_tick_13
theorem hd6_tick : y6_tick.cls = R6 ∧ y6_tick.cls ≠ "java/lang/invoke/MethodHandle" ∧ y6_tick.cls ≠ "java/lang/invoke/VarHandle" ∧ (parseMethodDescriptor y6_tick.desc).map (fun d => d.parameters.length) = some 1 := ⟨rfl, by decide, by decide, by decide +kernel⟩
theorem m6_tick {l : Launch} {D : va_G} {aC : Nat → ClassId} {ad : Nat → Nat → Nat} {X : Nat → Nat → Prop} {S A : sS} {G : sG} (hX : xC X G) (x1 : Int32)  : Met l y6_tick (.code y6_tick b6_tick 2 (some .int) :: wall) (rmk 1) (s_Pc [.ref (ad 0 0), .int x1] D aC ad X S A G) (s_Qi D aC ad X G (O6_tick S A G x1)) 0 0 (s_N ad X) :=
  s_met (by decide) rfl (Nat.le_of_ble_eq_true rfl) (fun p e s m args below meth c C0 hB ls hl => k6_tick_0 C0 hB hX x1  hl rfl)

def O6_cancel_75 (S A : sS) (G : sG) (x1 : Int32) (n2 : Nat) : Int32 × sS × sS := (S 14 n2 3, S, A)
def O6_cancel (S A : sS) (G : sG) (x1 : Int32) : Int32 × sS × sS := if V6_isOrder S A G x1 = 0 then ((-1), S, A) else if S 0 0 9 = (-1) then ((-2), S, A) else if V6_isPharmacistIn S A G  = 0 then ((-3), S, A) else if S 5 0 2 = x1 then ((-4), S, A) else if V3_isOpen S A G (x1.toNatClampNeg) (S 0 0 8) = 0 then ((-6), S, A) else O6_cancel_75 (O6_accept (up3 S 14 (x1.toNatClampNeg) 4 1) A G ).1 (O6_accept (up3 S 14 (x1.toNatClampNeg) 4 1) A G ).2 G x1 (x1.toNatClampNeg)
set_option maxRecDepth 100000 in
set_option maxHeartbeats 4000000 in
theorem k6_cancel_75 {p : Program} {l : Launch} {e : Env} {s : State} {m : MethodId} {args : Array Value} {below : List Frame} {meth : Method} {c : Code} {D : va_G} {aC : Nat → ClassId} {ad : Nat → Nat → Nat} {X : Nat → Nat → Prop} {S A : sS} {G : sG} {H : Heap} {locs : List Loc} (C0 : s_C p s m args meth c b6_cancel 3 R6 (some .int) D aC) (hB : s_B D aC ad X (s_N ad X) S A G s.heap H locs) (hX : xC X G) (x1 : Int32) (n2 : Nat) (hn2 : X 14 n2) {ls : Array Slot} (hl : lv_has ls 3 [(0, .ref (ad 0 0)), (1, .int x1), (2, .ref (ad 14 n2))]) {o : Int32 × sS × sS} (hO : O6_cancel_75 S A G x1 n2 = o) : W p l e (rmk 2) s m args below meth c H locs 0 0 (MQ below (s_Qi D aC ad X G o) args s 0 0 (s_N ad X)) (F0 m 75 ls []) := by
  obtain ⟨hx, hb, hml, hown, hw, hK, hr, hlocks⟩ := id C0
  unfold O6_cancel_75 at hO
  refine lv_aload_n hx hb d6_cancel_75 rfl (lv_at hl 2 rfl) ?_
  refine sr_get (v := .int (S 14 n2 3)) hx hb hw hown hK hB 3 hn2 cf_14 us3 (by decide) fl_6_123 (rfl) d6_cancel_76 ?_
  exact se_i C0 hB (hO) d6_cancel_79
set_option maxRecDepth 100000 in
set_option maxHeartbeats 4000000 in
theorem k6_cancel_0 {p : Program} {l : Launch} {e : Env} {s : State} {m : MethodId} {args : Array Value} {below : List Frame} {meth : Method} {c : Code} {D : va_G} {aC : Nat → ClassId} {ad : Nat → Nat → Nat} {X : Nat → Nat → Prop} {S A : sS} {G : sG} {H : Heap} {locs : List Loc} (C0 : s_C p s m args meth c b6_cancel 3 R6 (some .int) D aC) (hB : s_B D aC ad X (s_N ad X) S A G s.heap H locs) (hX : xC X G) (x1 : Int32) (hoc : 0 ≤ (S 0 0 13).toInt ∧ (S 0 0 13).toInt ≤ 60) (hgo : ∀ i : Nat, (i : Int) < (S 0 0 13).toInt → ¬ G 4 i = none) {ls : Array Slot} (hl : lv_has ls 3 [(0, .ref (ad 0 0)), (1, .int x1)]) {o : Int32 × sS × sS} (hO : O6_cancel S A G x1 = o) : W p l e (rmk 2) s m args below meth c H locs 0 0 (MQ below (s_Qi D aC ad X G o) args s 0 0 (s_N ad X)) (F0 m 0 ls []) := by
  obtain ⟨hx, hb, hml, hown, hw, hK, hr, hlocks⟩ := id C0
  unfold O6_cancel at hO
  refine lv_aload_n hx hb d6_cancel_0 rfl (lv_at hl 0 rfl) ?_
  refine lv_iload_n hx hb d6_cancel_1 rfl (lv_at hl 1 rfl) ?_
  refine sr_vp C0 hB (m6_isOrder hX x1 ) (hX.1 0 (by decide)) cf_0 ml_6_111 im_6_isOrder se_6_isOrder in_6 cd_6_isOrder hd6_isOrder ⟨⟨rfl, rfl⟩, by decide, by decide⟩ ⟨Nat.zero_le _, Nat.zero_le _⟩ hl.1 rfl (Nat.le_of_ble_eq_true rfl) d6_cancel_2 ?_
  refine lv_if_ne (tgt := 10) hx hb d6_cancel_5 (by decide) (fun c_1 => ?_) (fun c_1 => ?_)
  · refine lv_aload_n hx hb d6_cancel_10 rfl (lv_at hl 0 rfl) ?_
    refine sr_get (v := .int (S 0 0 9)) hx hb hw hown hK hB 9 (hX.1 0 (by decide)) cf_0 us6 (by decide) fl_6_58 (rfl) d6_cancel_11 ?_
    refine lv_iconst (v := (-1)) hx hb d6_cancel_14 (by decide) ?_
    refine lv_icmp_ne (tgt := 21) hx hb d6_cancel_15 (by decide) (fun c_2 => ?_) (fun c_2 => ?_)
    · refine lv_aload_n hx hb d6_cancel_21 rfl (lv_at hl 0 rfl) ?_
      refine sr_vp C0 hB (m6_isPharmacistIn hX  ) (hX.1 0 (by decide)) cf_0 ml_6_105 im_6_isPharmacistIn se_6_isPharmacistIn in_6 cd_6_isPharmacistIn hd6_isPharmacistIn ⟨⟨rfl, rfl⟩, by decide, by decide⟩ ⟨Nat.zero_le _, Nat.zero_le _⟩ hl.1 rfl (Nat.le_of_ble_eq_true rfl) d6_cancel_22 ?_
      refine lv_if_ne (tgt := 31) hx hb d6_cancel_25 (by decide) (fun c_3 => ?_) (fun c_3 => ?_)
      · refine lv_aload_n hx hb d6_cancel_31 rfl (lv_at hl 0 rfl) ?_
        refine sr_get (v := .ref (ad 5 0)) hx hb hw hown hK hB 4 (hX.1 0 (by decide)) cf_0 us6 (by decide) fl_6_36 (rfl) d6_cancel_32 ?_
        refine sr_get (v := .int (S 5 0 2)) hx hb hw hown hK hB 2 (hX.1 5 (by decide)) cf_5 us4 (by decide) fl_6_114 (rfl) d6_cancel_35 ?_
        refine lv_iload_n hx hb d6_cancel_38 rfl (lv_at hl 1 rfl) ?_
        refine lv_icmp_ne (tgt := 45) hx hb d6_cancel_39 (by decide) (fun c_4 => ?_) (fun c_4 => ?_)
        · refine lv_aload_n hx hb d6_cancel_45 rfl (lv_at hl 0 rfl) ?_
          refine sr_get (v := .ref (ad 4 0)) hx hb hw hown hK hB 3 (hX.1 0 (by decide)) cf_0 us6 (by decide) fl_6_29 (rfl) d6_cancel_46 ?_
          refine lv_iload_n hx hb d6_cancel_49 rfl (lv_at hl 1 rfl) ?_
          refine sr_aald (v := some (x1.toNatClampNeg)) hx hb hK hB (hX.1 4 (by decide)) rfl rfl rfl (by (refine vp_in_iff.mpr ?_); (show 0 ≤ x1.toInt ∧ x1.toInt < ((60 : Nat) : Int)); (have kc_1 := isOrder_t c_1); (have kc_4 := ne_i c_4); (have l0 : (0 : Int32).toInt = 0 := rfl); (have l2 : (2 : Int32).toInt = 2 := rfl); (have l5 : (5 : Int32).toInt = 5 := rfl);  omega) d6_cancel_50 (by exact (go hX (i := x1.toNatClampNeg) (by have q := isOrder_t c_1; exact hgo _ (by have := cl_i q.1; omega))).1) ?_
          refine lv_astore_n (lv' := [(2, .ref (ad 14 (x1.toNatClampNeg))), (0, .ref (ad 0 0)), (1, .int x1)]) hx hb d6_cancel_51 rfl hl (by decide) rfl (fun ls hl => ?_)
          refine lv_aload_n hx hb d6_cancel_52 rfl (lv_at hl 0 rfl) ?_
          refine lv_aload_n hx hb d6_cancel_53 rfl (lv_at hl 1 rfl) ?_
          refine sr_get (v := .int (S 0 0 8)) hx hb hw hown hK hB 8 (hX.1 0 (by decide)) cf_0 us6 (by decide) fl_6_54 (rfl) d6_cancel_54 ?_
          refine sr_vp C0 hB (m3_isOpen hX (x1.toNatClampNeg) (S 0 0 8) (go hX (i := x1.toNatClampNeg) (by have q := isOrder_t c_1; exact hgo _ (by have := cl_i q.1; omega))).2) (go hX (i := x1.toNatClampNeg) (by have q := isOrder_t c_1; exact hgo _ (by have := cl_i q.1; omega))).2 cf_14 ml_6_117 im_3_isOpen se_3_isOpen in_3 cd_3_isOpen hd3_isOpen ⟨⟨rfl, rfl⟩, by decide, by decide⟩ ⟨Nat.zero_le _, Nat.zero_le _⟩ hl.1 rfl (Nat.le_of_ble_eq_true rfl) d6_cancel_57 ?_
          refine lv_if_ne (tgt := 66) hx hb d6_cancel_60 (by decide) (fun c_5 => ?_) (fun c_5 => ?_)
          · refine lv_aload_n hx hb d6_cancel_66 rfl (lv_at hl 0 rfl) ?_
            refine lv_iconst (v := 1) hx hb d6_cancel_67 (by decide) ?_
            refine sr_put hx hb hw hown hK hB 4 (go hX (i := x1.toNatClampNeg) (by have q := isOrder_t c_1; exact hgo _ (by have := cl_i q.1; omega))).2 cf_14 us3 tk3 nm3 (by decide) fl_6_119 rfl rfl rfl rfl d6_cancel_68 (fun H locs hB => ?_)
            refine lv_aload_n hx hb d6_cancel_71 rfl (lv_at hl 1 rfl) ?_
            refine sr_vv C0 hB (m6_accept hX  ) (hX.1 0 (by decide)) cf_0 ml_6_98 im_6_accept se_6_accept in_6 cd_6_accept hd6_accept ⟨⟨rfl, rfl⟩, by decide, by decide⟩ ⟨Nat.zero_le _, Nat.zero_le _⟩ hl.1 rfl (Nat.le_of_ble_eq_true rfl) d6_cancel_72 (fun H locs hB => ?_)
            exact k6_cancel_75 C0 hB hX x1 (x1.toNatClampNeg) ((go hX (i := x1.toNatClampNeg) (by have q := isOrder_t c_1; exact hgo _ (by have := cl_i q.1; omega))).2) (lv_sub hl [1, 2, 0] rfl) (by rw [if_neg c_1, if_neg c_2, if_neg c_3, if_neg c_4, if_neg c_5] at hO; exact hO)
          · refine lv_bipush (v := (-6)) hx hb d6_cancel_63 (by decide) ?_
            exact se_i C0 hB (by rw [if_neg c_1, if_neg c_2, if_neg c_3, if_neg c_4, if_pos c_5] at hO; exact hO) d6_cancel_65
        · refine lv_bipush (v := (-4)) hx hb d6_cancel_42 (by decide) ?_
          exact se_i C0 hB (by rw [if_neg c_1, if_neg c_2, if_neg c_3, if_pos c_4] at hO; exact hO) d6_cancel_44
      · refine lv_bipush (v := (-3)) hx hb d6_cancel_28 (by decide) ?_
        exact se_i C0 hB (by rw [if_neg c_1, if_neg c_2, if_pos c_3] at hO; exact hO) d6_cancel_30
    · refine lv_bipush (v := (-2)) hx hb d6_cancel_18 (by decide) ?_
      exact se_i C0 hB (by rw [if_neg c_1, if_pos c_2] at hO; exact hO) d6_cancel_20
  · refine lv_iconst (v := (-1)) hx hb d6_cancel_8 (by decide) ?_
    exact se_i C0 hB (by rw [if_pos c_1] at hO; exact hO) d6_cancel_9
theorem hd6_cancel : y6_cancel.cls = R6 ∧ y6_cancel.cls ≠ "java/lang/invoke/MethodHandle" ∧ y6_cancel.cls ≠ "java/lang/invoke/VarHandle" ∧ (parseMethodDescriptor y6_cancel.desc).map (fun d => d.parameters.length) = some 1 := ⟨rfl, by decide, by decide, by decide +kernel⟩
theorem m6_cancel {l : Launch} {D : va_G} {aC : Nat → ClassId} {ad : Nat → Nat → Nat} {X : Nat → Nat → Prop} {S A : sS} {G : sG} (hX : xC X G) (x1 : Int32) (hoc : 0 ≤ (S 0 0 13).toInt ∧ (S 0 0 13).toInt ≤ 60) (hgo : ∀ i : Nat, (i : Int) < (S 0 0 13).toInt → ¬ G 4 i = none) : Met l y6_cancel (.code y6_cancel b6_cancel 3 (some .int) :: wall) (rmk 2) (s_Pc [.ref (ad 0 0), .int x1] D aC ad X S A G) (s_Qi D aC ad X G (O6_cancel S A G x1)) 0 0 (s_N ad X) :=
  s_met (by decide) rfl (Nat.le_of_ble_eq_true rfl) (fun p e s m args below meth c C0 hB ls hl => k6_cancel_0 C0 hB hX x1 hoc hgo hl rfl)

def O6_shut_58 (S A : sS) (G : sG) (z1 : Int32) : Int32 × sS × sS := (z1, S, A)
def O6_shut_54 (S A : sS) (G : sG) (z1 : Int32) : Int32 × sS × sS := O6_shut_58 (O6_accept S A G ).1 (O6_accept S A G ).2 G z1
def O6_shut (S A : sS) (G : sG)  : Int32 × sS × sS := if V4_isOpen S A G  = 0 then ((-4), S, A) else if S 5 0 0 = 2 then if S 5 0 5 = 0 then ((-4), S, A) else O6_shut_54 (O4_close S A G ).1 (O4_close S A G ).2 G ((S 0 0 8) - (S 5 0 3)) else O6_shut_54 (O4_close S A G ).1 (O4_close S A G ).2 G ((S 0 0 8) - (S 5 0 3))
set_option maxRecDepth 100000 in
set_option maxHeartbeats 4000000 in
theorem k6_shut_58 {p : Program} {l : Launch} {e : Env} {s : State} {m : MethodId} {args : Array Value} {below : List Frame} {meth : Method} {c : Code} {D : va_G} {aC : Nat → ClassId} {ad : Nat → Nat → Nat} {X : Nat → Nat → Prop} {S A : sS} {G : sG} {H : Heap} {locs : List Loc} (C0 : s_C p s m args meth c b6_shut 2 R6 (some .int) D aC) (hB : s_B D aC ad X (s_N ad X) S A G s.heap H locs) (hX : xC X G) (z1 : Int32)  {ls : Array Slot} (hl : lv_has ls 2 [(0, .ref (ad 0 0)), (1, .int z1)]) {o : Int32 × sS × sS} (hO : O6_shut_58 S A G z1 = o) : W p l e (rmk 1) s m args below meth c H locs 0 0 (MQ below (s_Qi D aC ad X G o) args s 0 0 (s_N ad X)) (F0 m 58 ls []) := by
  obtain ⟨hx, hb, hml, hown, hw, hK, hr, hlocks⟩ := id C0
  unfold O6_shut_58 at hO
  refine lv_iload_n hx hb d6_shut_58 rfl (lv_at hl 1 rfl) ?_
  exact se_i C0 hB (hO) d6_shut_59
set_option maxRecDepth 100000 in
set_option maxHeartbeats 4000000 in
theorem k6_shut_54 {p : Program} {l : Launch} {e : Env} {s : State} {m : MethodId} {args : Array Value} {below : List Frame} {meth : Method} {c : Code} {D : va_G} {aC : Nat → ClassId} {ad : Nat → Nat → Nat} {X : Nat → Nat → Prop} {S A : sS} {G : sG} {H : Heap} {locs : List Loc} (C0 : s_C p s m args meth c b6_shut 2 R6 (some .int) D aC) (hB : s_B D aC ad X (s_N ad X) S A G s.heap H locs) (hX : xC X G) (z1 : Int32)  {ls : Array Slot} (hl : lv_has ls 2 [(0, .ref (ad 0 0)), (1, .int z1)]) {o : Int32 × sS × sS} (hO : O6_shut_54 S A G z1 = o) : W p l e (rmk 1) s m args below meth c H locs 0 0 (MQ below (s_Qi D aC ad X G o) args s 0 0 (s_N ad X)) (F0 m 54 ls []) := by
  obtain ⟨hx, hb, hml, hown, hw, hK, hr, hlocks⟩ := id C0
  unfold O6_shut_54 at hO
  refine lv_aload_n hx hb d6_shut_54 rfl (lv_at hl 0 rfl) ?_
  refine sr_vv C0 hB (m6_accept hX  ) (hX.1 0 (by decide)) cf_0 ml_6_98 im_6_accept se_6_accept in_6 cd_6_accept hd6_accept ⟨⟨rfl, rfl⟩, by decide, by decide⟩ ⟨Nat.zero_le _, Nat.zero_le _⟩ hl.1 rfl (Nat.le_of_ble_eq_true rfl) d6_shut_55 (fun H locs hB => ?_)
  exact k6_shut_58 C0 hB hX z1  (lv_sub hl [0, 1] rfl) (hO)
set_option maxRecDepth 100000 in
set_option maxHeartbeats 4000000 in
theorem k6_shut_0 {p : Program} {l : Launch} {e : Env} {s : State} {m : MethodId} {args : Array Value} {below : List Frame} {meth : Method} {c : Code} {D : va_G} {aC : Nat → ClassId} {ad : Nat → Nat → Nat} {X : Nat → Nat → Prop} {S A : sS} {G : sG} {H : Heap} {locs : List Loc} (C0 : s_C p s m args meth c b6_shut 2 R6 (some .int) D aC) (hB : s_B D aC ad X (s_N ad X) S A G s.heap H locs) (hX : xC X G)   {ls : Array Slot} (hl : lv_has ls 2 [(0, .ref (ad 0 0))]) {o : Int32 × sS × sS} (hO : O6_shut S A G  = o) : W p l e (rmk 1) s m args below meth c H locs 0 0 (MQ below (s_Qi D aC ad X G o) args s 0 0 (s_N ad X)) (F0 m 0 ls []) := by
  obtain ⟨hx, hb, hml, hown, hw, hK, hr, hlocks⟩ := id C0
  unfold O6_shut at hO
  refine lv_aload_n hx hb d6_shut_0 rfl (lv_at hl 0 rfl) ?_
  refine sr_get (v := .ref (ad 5 0)) hx hb hw hown hK hB 4 (hX.1 0 (by decide)) cf_0 us6 (by decide) fl_6_36 (rfl) d6_shut_1 ?_
  refine sr_vp C0 hB (m4_isOpen hX  ) (hX.1 5 (by decide)) cf_5 ml_6_87 im_4_isOpen se_4_isOpen in_4 cd_4_isOpen hd4_isOpen ⟨⟨rfl, rfl⟩, by decide, by decide⟩ ⟨Nat.zero_le _, Nat.zero_le _⟩ hl.1 rfl (Nat.le_of_ble_eq_true rfl) d6_shut_4 ?_
  refine lv_if_eq (tgt := 31) hx hb d6_shut_7 (by decide) (fun c_1 => ?_) (fun c_1 => ?_)
  · refine lv_bipush (v := (-4)) hx hb d6_shut_31 (by decide) ?_
    exact se_i C0 hB (by rw [if_pos c_1] at hO; exact hO) d6_shut_33
  · refine lv_aload_n hx hb d6_shut_10 rfl (lv_at hl 0 rfl) ?_
    refine sr_get (v := .ref (ad 5 0)) hx hb hw hown hK hB 4 (hX.1 0 (by decide)) cf_0 us6 (by decide) fl_6_36 (rfl) d6_shut_11 ?_
    refine sr_get (v := .int (S 5 0 0)) hx hb hw hown hK hB 0 (hX.1 5 (by decide)) cf_5 us4 (by decide) fl_6_188 (rfl) d6_shut_14 ?_
    refine lv_iconst (v := 2) hx hb d6_shut_17 (by decide) ?_
    refine lv_icmp_ne (tgt := 34) hx hb d6_shut_18 (by decide) (fun c_2 => ?_) (fun c_2 => ?_)
    · refine lv_aload_n hx hb d6_shut_34 rfl (lv_at hl 0 rfl) ?_
      refine sr_get (v := .int (S 0 0 8)) hx hb hw hown hK hB 8 (hX.1 0 (by decide)) cf_0 us6 (by decide) fl_6_54 (rfl) d6_shut_35 ?_
      refine lv_aload_n hx hb d6_shut_38 rfl (lv_at hl 0 rfl) ?_
      refine sr_get (v := .ref (ad 5 0)) hx hb hw hown hK hB 4 (hX.1 0 (by decide)) cf_0 us6 (by decide) fl_6_36 (rfl) d6_shut_39 ?_
      refine sr_get (v := .int (S 5 0 3)) hx hb hw hown hK hB 3 (hX.1 5 (by decide)) cf_5 us4 (by decide) fl_6_212 (rfl) d6_shut_42 ?_
      refine lv_isub hx hb d6_shut_45 ?_
      refine lv_istore_n (lv' := [(1, .int ((S 0 0 8) - (S 5 0 3))), (0, .ref (ad 0 0))]) hx hb d6_shut_46 rfl hl (by decide) rfl (fun ls hl => ?_)
      refine lv_aload_n hx hb d6_shut_47 rfl (lv_at hl 1 rfl) ?_
      refine sr_get (v := .ref (ad 5 0)) hx hb hw hown hK hB 4 (hX.1 0 (by decide)) cf_0 us6 (by decide) fl_6_36 (rfl) d6_shut_48 ?_
      refine sr_vv C0 hB (m4_close hX  ) (hX.1 5 (by decide)) cf_5 ml_6_215 im_4_close se_4_close in_4 cd_4_close hd4_close ⟨⟨rfl, rfl⟩, by decide, by decide⟩ ⟨Nat.zero_le _, Nat.zero_le _⟩ hl.1 rfl (Nat.le_of_ble_eq_true rfl) d6_shut_51 (fun H locs hB => ?_)
      exact k6_shut_54 C0 hB hX ((S 0 0 8) - (S 5 0 3))  (lv_sub hl [1, 0] rfl) (by rw [if_neg c_1, if_neg c_2] at hO; exact hO)
    · refine lv_aload_n hx hb d6_shut_21 rfl (lv_at hl 0 rfl) ?_
      refine sr_get (v := .ref (ad 5 0)) hx hb hw hown hK hB 4 (hX.1 0 (by decide)) cf_0 us6 (by decide) fl_6_36 (rfl) d6_shut_22 ?_
      refine sr_get (v := .int (S 5 0 5)) hx hb hw hown hK hB 5 (hX.1 5 (by decide)) cf_5 us4 (by decide) fl_6_171 (rfl) d6_shut_25 ?_
      refine lv_if_ne (tgt := 34) hx hb d6_shut_28 (by decide) (fun c_3 => ?_) (fun c_3 => ?_)
      · refine lv_aload_n hx hb d6_shut_34 rfl (lv_at hl 0 rfl) ?_
        refine sr_get (v := .int (S 0 0 8)) hx hb hw hown hK hB 8 (hX.1 0 (by decide)) cf_0 us6 (by decide) fl_6_54 (rfl) d6_shut_35 ?_
        refine lv_aload_n hx hb d6_shut_38 rfl (lv_at hl 0 rfl) ?_
        refine sr_get (v := .ref (ad 5 0)) hx hb hw hown hK hB 4 (hX.1 0 (by decide)) cf_0 us6 (by decide) fl_6_36 (rfl) d6_shut_39 ?_
        refine sr_get (v := .int (S 5 0 3)) hx hb hw hown hK hB 3 (hX.1 5 (by decide)) cf_5 us4 (by decide) fl_6_212 (rfl) d6_shut_42 ?_
        refine lv_isub hx hb d6_shut_45 ?_
        refine lv_istore_n (lv' := [(1, .int ((S 0 0 8) - (S 5 0 3))), (0, .ref (ad 0 0))]) hx hb d6_shut_46 rfl hl (by decide) rfl (fun ls hl => ?_)
        refine lv_aload_n hx hb d6_shut_47 rfl (lv_at hl 1 rfl) ?_
        refine sr_get (v := .ref (ad 5 0)) hx hb hw hown hK hB 4 (hX.1 0 (by decide)) cf_0 us6 (by decide) fl_6_36 (rfl) d6_shut_48 ?_
        refine sr_vv C0 hB (m4_close hX  ) (hX.1 5 (by decide)) cf_5 ml_6_215 im_4_close se_4_close in_4 cd_4_close hd4_close ⟨⟨rfl, rfl⟩, by decide, by decide⟩ ⟨Nat.zero_le _, Nat.zero_le _⟩ hl.1 rfl (Nat.le_of_ble_eq_true rfl) d6_shut_51 (fun H locs hB => ?_)
        exact k6_shut_54 C0 hB hX ((S 0 0 8) - (S 5 0 3))  (lv_sub hl [1, 0] rfl) (by rw [if_neg c_1, if_pos c_2, if_neg c_3] at hO; exact hO)
      · refine lv_bipush (v := (-4)) hx hb d6_shut_31 (by decide) ?_
        exact se_i C0 hB (by rw [if_neg c_1, if_pos c_2, if_pos c_3] at hO; exact hO) d6_shut_33
theorem hd6_shut : y6_shut.cls = R6 ∧ y6_shut.cls ≠ "java/lang/invoke/MethodHandle" ∧ y6_shut.cls ≠ "java/lang/invoke/VarHandle" ∧ (parseMethodDescriptor y6_shut.desc).map (fun d => d.parameters.length) = some 0 := ⟨rfl, by decide, by decide, by decide +kernel⟩
theorem m6_shut {l : Launch} {D : va_G} {aC : Nat → ClassId} {ad : Nat → Nat → Nat} {X : Nat → Nat → Prop} {S A : sS} {G : sG} (hX : xC X G)   : Met l y6_shut (.code y6_shut b6_shut 2 (some .int) :: wall) (rmk 1) (s_Pc [.ref (ad 0 0)] D aC ad X S A G) (s_Qi D aC ad X G (O6_shut S A G )) 0 0 (s_N ad X) :=
  s_met (by decide) rfl (Nat.le_of_ble_eq_true rfl) (fun p e s m args below meth c C0 hB ls hl => k6_shut_0 C0 hB hX   hl rfl)

def V6_mismatch (S A : sS) (G : sG) (x1 : Int32) : Int32 := if x1 < 0 then (-1) else if S 0 0 14 ≤ x1 then (-1) else A 7 0 (x1.toNatClampNeg)
set_option maxRecDepth 100000 in
set_option maxHeartbeats 4000000 in
theorem k6_mismatch_0 {p : Program} {l : Launch} {e : Env} {s : State} {m : MethodId} {args : Array Value} {below : List Frame} {meth : Method} {c : Code} {D : va_G} {aC : Nat → ClassId} {ad : Nat → Nat → Nat} {X : Nat → Nat → Prop} {S A : sS} {G : sG} (C0 : s_C p s m args meth c b6_mismatch 2 R6 (some .int) D aC) (hB : s_B D aC ad X (s_N ad X) S A G s.heap s.heap []) (hX : xC X G) (x1 : Int32) (hmm : (S 0 0 14).toInt ≤ 64) {ls : Array Slot} (hl : lv_has ls 2 [(0, .ref (ad 0 0)), (1, .int x1)]) {o : Int32} (hO : V6_mismatch S A G x1 = o) : W p l e (rmk 0) s m args below meth c s.heap [] 0 0 (MQ below (s_Qp o) args s 0 0 (fun _ => False)) (F0 m 0 ls []) := by
  obtain ⟨hx, hb, hml, hown, hw, hK, hr, hlocks⟩ := id C0
  unfold V6_mismatch at hO
  refine lv_iload_n hx hb d6_mismatch_0 rfl (lv_at hl 1 rfl) ?_
  refine lv_if_lt (tgt := 21) hx hb d6_mismatch_1 (by decide) (fun c_1 => ?_) (fun c_1 => ?_)
  · refine lv_iconst (v := (-1)) hx hb d6_mismatch_21 (by decide) ?_
    exact se_pi C0 (by rw [if_pos c_1] at hO; exact hO) d6_mismatch_22
  · refine lv_iload_n hx hb d6_mismatch_4 rfl (lv_at hl 1 rfl) ?_
    refine lv_aload_n hx hb d6_mismatch_5 rfl (lv_at hl 0 rfl) ?_
    refine sr_get (v := .int (S 0 0 14)) hx hb hw hown hK hB 14 (hX.1 0 (by decide)) cf_0 us6 (by decide) fl_6_73 (rfl) d6_mismatch_6 ?_
    refine lv_icmp_ge (tgt := 21) hx hb d6_mismatch_9 (by decide) (fun c_2 => ?_) (fun c_2 => ?_)
    · refine lv_iconst (v := (-1)) hx hb d6_mismatch_21 (by decide) ?_
      exact se_pi C0 (by rw [if_neg c_1, if_pos c_2] at hO; exact hO) d6_mismatch_22
    · refine lv_aload_n hx hb d6_mismatch_12 rfl (lv_at hl 0 rfl) ?_
      refine sr_get (v := .ref (ad 7 0)) hx hb hw hown hK hB 6 (hX.1 0 (by decide)) cf_0 us6 (by decide) fl_6_47 (rfl) d6_mismatch_13 ?_
      refine lv_iload_n hx hb d6_mismatch_16 rfl (lv_at hl 1 rfl) ?_
      refine sr_iald (v := A 7 0 (x1.toNatClampNeg)) hx hb hK hB (hX.1 7 (by decide)) rfl rfl (by (refine vp_in_iff.mpr ?_); (show 0 ≤ x1.toInt ∧ x1.toInt < ((64 : Nat) : Int)); (have kc_1 := nlt_i c_1); (have kc_2 := nle_i c_2); (have l0 : (0 : Int32).toInt = 0 := rfl); (have l14 : (14 : Int32).toInt = 14 := rfl);  omega) d6_mismatch_17 (rfl) ?_
      refine lv_goto (tgt := 22) hx hb d6_mismatch_18 (by decide) ?_
      exact se_pi C0 (by rw [if_neg c_1, if_neg c_2] at hO; exact hO) d6_mismatch_22
theorem hd6_mismatch : y6_mismatch.cls = R6 ∧ y6_mismatch.cls ≠ "java/lang/invoke/MethodHandle" ∧ y6_mismatch.cls ≠ "java/lang/invoke/VarHandle" ∧ (parseMethodDescriptor y6_mismatch.desc).map (fun d => d.parameters.length) = some 1 := ⟨rfl, by decide, by decide, by decide +kernel⟩
theorem m6_mismatch {l : Launch} {D : va_G} {aC : Nat → ClassId} {ad : Nat → Nat → Nat} {X : Nat → Nat → Prop} {S A : sS} {G : sG} (hX : xC X G) (x1 : Int32) (hmm : (S 0 0 14).toInt ≤ 64) : Met l y6_mismatch (.code y6_mismatch b6_mismatch 2 (some .int) :: wall) (rmk 0) (s_Pc [.ref (ad 0 0), .int x1] D aC ad X S A G) (s_Qp (V6_mismatch S A G x1)) 0 0 (fun _ => False) :=
  s_met (by decide) rfl (Nat.le_of_ble_eq_true rfl) (fun p e s m args below meth c C0 hB ls hl => k6_mismatch_0 C0 hB hX x1 hmm hl rfl)

def V6_bin (S A : sS) (G : sG) (x1 : Int32) (x2 : Int32) : Int32 := if V6_isBin S A G x1 = 0 then (-1) else if x2 = 0 then S 15 (x1.toNatClampNeg) 2 else if x2 = 1 then V0_book S A G (x1.toNatClampNeg) else if x2 = 2 then V0_given S A G (x1.toNatClampNeg) (S 0 0 8) else if x2 = 3 then S 15 (x1.toNatClampNeg) 4 else if x2 = 4 then S 15 (x1.toNatClampNeg) 3 else if x2 = 5 then if S 5 0 1 = x1 then 1 else 0 else (-1)
set_option maxRecDepth 100000 in
set_option maxHeartbeats 4000000 in
theorem k6_bin_0 {p : Program} {l : Launch} {e : Env} {s : State} {m : MethodId} {args : Array Value} {below : List Frame} {meth : Method} {c : Code} {D : va_G} {aC : Nat → ClassId} {ad : Nat → Nat → Nat} {X : Nat → Nat → Prop} {S A : sS} {G : sG} (C0 : s_C p s m args meth c b6_bin 4 R6 (some .int) D aC) (hB : s_B D aC ad X (s_N ad X) S A G s.heap s.heap []) (hX : xC X G) (x1 : Int32) (x2 : Int32) (hlo : ∀ i, i < 64 → 0 ≤ (S 15 i 3).toInt ∧ (S 15 i 3).toInt ≤ 6) {ls : Array Slot} (hl : lv_has ls 4 [(0, .ref (ad 0 0)), (1, .int x1), (2, .int x2)]) {o : Int32} (hO : V6_bin S A G x1 x2 = o) : W p l e (rmk 2) s m args below meth c s.heap [] 0 0 (MQ below (s_Qp o) args s 0 0 (fun _ => False)) (F0 m 0 ls []) := by
  obtain ⟨hx, hb, hml, hown, hw, hK, hr, hlocks⟩ := id C0
  unfold V6_bin at hO
  refine lv_aload_n hx hb d6_bin_0 rfl (lv_at hl 0 rfl) ?_
  refine lv_iload_n hx hb d6_bin_1 rfl (lv_at hl 1 rfl) ?_
  refine sr_vp C0 hB (m6_isBin hX x1 ) (hX.1 0 (by decide)) cf_0 ml_6_230 im_6_isBin se_6_isBin in_6 cd_6_isBin hd6_isBin ⟨⟨rfl, rfl⟩, by decide, by decide⟩ ⟨Nat.zero_le _, Nat.zero_le _⟩ hl.1 rfl (Nat.le_of_ble_eq_true rfl) d6_bin_2 ?_
  refine lv_if_ne (tgt := 10) hx hb d6_bin_5 (by decide) (fun c_1 => ?_) (fun c_1 => ?_)
  · refine lv_aload_n hx hb d6_bin_10 rfl (lv_at hl 0 rfl) ?_
    refine sr_get (v := .ref (ad 3 0)) hx hb hw hown hK hB 2 (hX.1 0 (by decide)) cf_0 us6 (by decide) fl_6_23 (rfl) d6_bin_11 ?_
    refine lv_iload_n hx hb d6_bin_14 rfl (lv_at hl 1 rfl) ?_
    refine sr_aald (v := some (x1.toNatClampNeg)) hx hb hK hB (hX.1 3 (by decide)) rfl rfl rfl (by (refine vp_in_iff.mpr ?_); (show 0 ≤ x1.toInt ∧ x1.toInt < ((64 : Nat) : Int)); (have kc_1 := isBin_t c_1);  omega) d6_bin_15 (by exact gb hX (show x1.toNatClampNeg < 64 by (have kc_1 := isBin_t c_1); (have cc9 := cl_i (x := x1) (by omega));  omega)) ?_
    refine lv_astore_n (lv' := [(3, .ref (ad 15 (x1.toNatClampNeg))), (0, .ref (ad 0 0)), (1, .int x1), (2, .int x2)]) hx hb d6_bin_16 rfl hl (by decide) rfl (fun ls hl => ?_)
    refine lv_iload_n hx hb d6_bin_17 rfl (lv_at hl 3 rfl) ?_
    by_cases c_2 : x2 = 0
    · refine lv_tableIn (tgt := 56) (off := 38) hx hb d6_bin_18 (by rw [c_2]; decide) (by rw [c_2]; decide) (by rw [c_2]; rfl) (by decide) ?_
      refine lv_aload_n hx hb d6_bin_56 rfl (lv_at hl 0 rfl) ?_
      refine sr_get (v := .int (S 15 (x1.toNatClampNeg) 2)) hx hb hw hown hK hB 2 (hX.2.2.1 (x1.toNatClampNeg) (show x1.toNatClampNeg < 64 by (have kc_1 := isBin_t c_1); (have cc9 := cl_i (x := x1) (by omega));  omega)).1 cf_15 us0 (by decide) fl_6_155 (rfl) d6_bin_57 ?_
      exact se_pi C0 (by rw [if_neg c_1, if_pos c_2] at hO; exact hO) d6_bin_60
    · by_cases c_3 : x2 = 1
      · refine lv_tableIn (tgt := 61) (off := 43) hx hb d6_bin_18 (by rw [c_3]; decide) (by rw [c_3]; decide) (by rw [c_3]; rfl) (by decide) ?_
        refine lv_aload_n hx hb d6_bin_61 rfl (lv_at hl 0 rfl) ?_
        refine sr_vp C0 hB (m0_book hX (x1.toNatClampNeg) (by (have kc_1 := isBin_t c_1);  (have cc8 := cl_i (x := x1) (by omega)); omega) (hlo _ (by (have kc_1 := isBin_t c_1);  (have cc8 := cl_i (x := x1) (by omega)); omega))) (hX.2.2.1 (x1.toNatClampNeg) (show x1.toNatClampNeg < 64 by (have kc_1 := isBin_t c_1); (have cc9 := cl_i (x := x1) (by omega));  omega)).1 cf_15 ml_6_194 im_0_book se_0_book in_0 cd_0_book hd0_book ⟨⟨rfl, rfl⟩, by decide, by decide⟩ ⟨Nat.zero_le _, Nat.zero_le _⟩ hl.1 rfl (Nat.le_of_ble_eq_true rfl) d6_bin_62 ?_
        exact se_pi C0 (by rw [if_neg c_1, if_neg c_2, if_pos c_3] at hO; exact hO) d6_bin_65
      · by_cases c_4 : x2 = 2
        · refine lv_tableIn (tgt := 66) (off := 48) hx hb d6_bin_18 (by rw [c_4]; decide) (by rw [c_4]; decide) (by rw [c_4]; rfl) (by decide) ?_
          refine lv_aload_n hx hb d6_bin_66 rfl (lv_at hl 0 rfl) ?_
          refine lv_aload_n hx hb d6_bin_67 rfl (lv_at hl 1 rfl) ?_
          refine sr_get (v := .int (S 0 0 8)) hx hb hw hown hK hB 8 (hX.1 0 (by decide)) cf_0 us6 (by decide) fl_6_54 (rfl) d6_bin_68 ?_
          refine sr_vp C0 hB (m0_given hX (x1.toNatClampNeg) (S 0 0 8) (by (have kc_1 := isBin_t c_1);  (have cc8 := cl_i (x := x1) (by omega)); omega) (hlo _ (by (have kc_1 := isBin_t c_1);  (have cc8 := cl_i (x := x1) (by omega)); omega))) (hX.2.2.1 (x1.toNatClampNeg) (show x1.toNatClampNeg < 64 by (have kc_1 := isBin_t c_1); (have cc9 := cl_i (x := x1) (by omega));  omega)).1 cf_15 ml_6_191 im_0_given se_0_given in_0 cd_0_given hd0_given ⟨⟨rfl, rfl⟩, by decide, by decide⟩ ⟨Nat.zero_le _, Nat.zero_le _⟩ hl.1 rfl (Nat.le_of_ble_eq_true rfl) d6_bin_71 ?_
          exact se_pi C0 (by rw [if_neg c_1, if_neg c_2, if_neg c_3, if_pos c_4] at hO; exact hO) d6_bin_74
        · by_cases c_5 : x2 = 3
          · refine lv_tableIn (tgt := 75) (off := 57) hx hb d6_bin_18 (by rw [c_5]; decide) (by rw [c_5]; decide) (by rw [c_5]; rfl) (by decide) ?_
            refine lv_aload_n hx hb d6_bin_75 rfl (lv_at hl 0 rfl) ?_
            refine sr_get (v := .int (S 15 (x1.toNatClampNeg) 4)) hx hb hw hown hK hB 4 (hX.2.2.1 (x1.toNatClampNeg) (show x1.toNatClampNeg < 64 by (have kc_1 := isBin_t c_1); (have cc9 := cl_i (x := x1) (by omega));  omega)).1 cf_15 us0 (by decide) fl_6_174 (rfl) d6_bin_76 ?_
            exact se_pi C0 (by rw [if_neg c_1, if_neg c_2, if_neg c_3, if_neg c_4, if_pos c_5] at hO; exact hO) d6_bin_79
          · by_cases c_6 : x2 = 4
            · refine lv_tableIn (tgt := 80) (off := 62) hx hb d6_bin_18 (by rw [c_6]; decide) (by rw [c_6]; decide) (by rw [c_6]; rfl) (by decide) ?_
              refine lv_aload_n hx hb d6_bin_80 rfl (lv_at hl 0 rfl) ?_
              refine sr_get (v := .int (S 15 (x1.toNatClampNeg) 3)) hx hb hw hown hK hB 3 (hX.2.2.1 (x1.toNatClampNeg) (show x1.toNatClampNeg < 64 by (have kc_1 := isBin_t c_1); (have cc9 := cl_i (x := x1) (by omega));  omega)).1 cf_15 us0 (by decide) fl_6_149 (rfl) d6_bin_81 ?_
              exact se_pi C0 (by rw [if_neg c_1, if_neg c_2, if_neg c_3, if_neg c_4, if_neg c_5, if_pos c_6] at hO; exact hO) d6_bin_84
            · by_cases c_7 : x2 = 5
              · refine lv_tableIn (tgt := 85) (off := 67) hx hb d6_bin_18 (by rw [c_7]; decide) (by rw [c_7]; decide) (by rw [c_7]; rfl) (by decide) ?_
                refine lv_aload_n hx hb d6_bin_85 rfl (lv_at hl 1 rfl) ?_
                refine sr_get (v := .ref (ad 5 0)) hx hb hw hown hK hB 4 (hX.1 0 (by decide)) cf_0 us6 (by decide) fl_6_36 (rfl) d6_bin_86 ?_
                refine sr_get (v := .int (S 5 0 1)) hx hb hw hown hK hB 1 (hX.1 5 (by decide)) cf_5 us4 (by decide) fl_6_165 (rfl) d6_bin_89 ?_
                refine lv_iload_n hx hb d6_bin_92 rfl (lv_at hl 2 rfl) ?_
                refine lv_icmp_ne (tgt := 100) hx hb d6_bin_93 (by decide) (fun c_8 => ?_) (fun c_8 => ?_)
                · refine lv_iconst (v := 0) hx hb d6_bin_100 (by decide) ?_
                  exact se_pi C0 (by rw [if_neg c_1, if_neg c_2, if_neg c_3, if_neg c_4, if_neg c_5, if_neg c_6, if_pos c_7, if_neg c_8] at hO; exact hO) d6_bin_101
                · refine lv_iconst (v := 1) hx hb d6_bin_96 (by decide) ?_
                  refine lv_goto (tgt := 101) hx hb d6_bin_97 (by decide) ?_
                  exact se_pi C0 (by rw [if_neg c_1, if_neg c_2, if_neg c_3, if_neg c_4, if_neg c_5, if_neg c_6, if_pos c_7, if_pos c_8] at hO; exact hO) d6_bin_101
              · refine lv_tableOut (tgt := 102) hx hb d6_bin_18 (tab_out 6 (by decide) (by decide) (fun k hk h => by rcases (show k = 0 ∨ k = 1 ∨ k = 2 ∨ k = 3 ∨ k = 4 ∨ k = 5 by omega) with rfl | rfl | rfl | rfl | rfl | rfl <;> first | exact c_2 h | exact c_3 h | exact c_4 h | exact c_5 h | exact c_6 h | exact c_7 h)) (by decide) ?_
                refine lv_iconst (v := (-1)) hx hb d6_bin_102 (by decide) ?_
                exact se_pi C0 (by rw [if_neg c_1, if_neg c_2, if_neg c_3, if_neg c_4, if_neg c_5, if_neg c_6, if_neg c_7] at hO; exact hO) d6_bin_103
  · refine lv_iconst (v := (-1)) hx hb d6_bin_8 (by decide) ?_
    exact se_pi C0 (by rw [if_pos c_1] at hO; exact hO) d6_bin_9
theorem hd6_bin : y6_bin.cls = R6 ∧ y6_bin.cls ≠ "java/lang/invoke/MethodHandle" ∧ y6_bin.cls ≠ "java/lang/invoke/VarHandle" ∧ (parseMethodDescriptor y6_bin.desc).map (fun d => d.parameters.length) = some 2 := ⟨rfl, by decide, by decide, by decide +kernel⟩
theorem m6_bin {l : Launch} {D : va_G} {aC : Nat → ClassId} {ad : Nat → Nat → Nat} {X : Nat → Nat → Prop} {S A : sS} {G : sG} (hX : xC X G) (x1 : Int32) (x2 : Int32) (hlo : ∀ i, i < 64 → 0 ≤ (S 15 i 3).toInt ∧ (S 15 i 3).toInt ≤ 6) : Met l y6_bin (.code y6_bin b6_bin 4 (some .int) :: wall) (rmk 2) (s_Pc [.ref (ad 0 0), .int x1, .int x2] D aC ad X S A G) (s_Qp (V6_bin S A G x1 x2)) 0 0 (fun _ => False) :=
  s_met (by decide) rfl (Nat.le_of_ble_eq_true rfl) (fun p e s m args below meth c C0 hB ls hl => k6_bin_0 C0 hB hX x1 x2 hlo hl rfl)

def V6_lot (S A : sS) (G : sG) (x1 : Int32) (x2 : Int32) (x3 : Int32) : Int32 := if V6_isBin S A G x1 = 0 then (-1) else if x2 < 0 then (-1) else if x2 < S 15 (x1.toNatClampNeg) 3 then if x3 = 0 then A 17 (x1.toNatClampNeg) (x2.toNatClampNeg) else A 16 (x1.toNatClampNeg) (x2.toNatClampNeg) else (-1)
set_option maxRecDepth 100000 in
set_option maxHeartbeats 4000000 in
theorem k6_lot_0 {p : Program} {l : Launch} {e : Env} {s : State} {m : MethodId} {args : Array Value} {below : List Frame} {meth : Method} {c : Code} {D : va_G} {aC : Nat → ClassId} {ad : Nat → Nat → Nat} {X : Nat → Nat → Prop} {S A : sS} {G : sG} (C0 : s_C p s m args meth c b6_lot 4 R6 (some .int) D aC) (hB : s_B D aC ad X (s_N ad X) S A G s.heap s.heap []) (hX : xC X G) (x1 : Int32) (x2 : Int32) (x3 : Int32) (hlo : ∀ i, i < 64 → 0 ≤ (S 15 i 3).toInt ∧ (S 15 i 3).toInt ≤ 6) {ls : Array Slot} (hl : lv_has ls 4 [(0, .ref (ad 0 0)), (1, .int x1), (2, .int x2), (3, .int x3)]) {o : Int32} (hO : V6_lot S A G x1 x2 x3 = o) : W p l e (rmk 1) s m args below meth c s.heap [] 0 0 (MQ below (s_Qp o) args s 0 0 (fun _ => False)) (F0 m 0 ls []) := by
  obtain ⟨hx, hb, hml, hown, hw, hK, hr, hlocks⟩ := id C0
  unfold V6_lot at hO
  refine lv_aload_n hx hb d6_lot_0 rfl (lv_at hl 0 rfl) ?_
  refine lv_iload_n hx hb d6_lot_1 rfl (lv_at hl 1 rfl) ?_
  refine sr_vp C0 hB (m6_isBin hX x1 ) (hX.1 0 (by decide)) cf_0 ml_6_230 im_6_isBin se_6_isBin in_6 cd_6_isBin hd6_isBin ⟨⟨rfl, rfl⟩, by decide, by decide⟩ ⟨Nat.zero_le _, Nat.zero_le _⟩ hl.1 rfl (Nat.le_of_ble_eq_true rfl) d6_lot_2 ?_
  refine lv_if_eq (tgt := 25) hx hb d6_lot_5 (by decide) (fun c_1 => ?_) (fun c_1 => ?_)
  · refine lv_iconst (v := (-1)) hx hb d6_lot_25 (by decide) ?_
    exact se_pi C0 (by rw [if_pos c_1] at hO; exact hO) d6_lot_26
  · refine lv_iload_n hx hb d6_lot_8 rfl (lv_at hl 2 rfl) ?_
    refine lv_if_lt (tgt := 25) hx hb d6_lot_9 (by decide) (fun c_2 => ?_) (fun c_2 => ?_)
    · refine lv_iconst (v := (-1)) hx hb d6_lot_25 (by decide) ?_
      exact se_pi C0 (by rw [if_neg c_1, if_pos c_2] at hO; exact hO) d6_lot_26
    · refine lv_iload_n hx hb d6_lot_12 rfl (lv_at hl 2 rfl) ?_
      refine lv_aload_n hx hb d6_lot_13 rfl (lv_at hl 0 rfl) ?_
      refine sr_get (v := .ref (ad 3 0)) hx hb hw hown hK hB 2 (hX.1 0 (by decide)) cf_0 us6 (by decide) fl_6_23 (rfl) d6_lot_14 ?_
      refine lv_iload_n hx hb d6_lot_17 rfl (lv_at hl 1 rfl) ?_
      refine sr_aald (v := some (x1.toNatClampNeg)) hx hb hK hB (hX.1 3 (by decide)) rfl rfl rfl (by (refine vp_in_iff.mpr ?_); (show 0 ≤ x1.toInt ∧ x1.toInt < ((64 : Nat) : Int)); (have kc_1 := isBin_t c_1); (have qL := at_i hlo (x := x1) (by omega));  omega) d6_lot_18 (by exact gb hX (show x1.toNatClampNeg < 64 by (have kc_1 := isBin_t c_1); (have qL := at_i hlo (x := x1) (by omega)); (have cc9 := cl_i (x := x1) (by omega));  omega)) ?_
      refine sr_get (v := .int (S 15 (x1.toNatClampNeg) 3)) hx hb hw hown hK hB 3 (hX.2.2.1 (x1.toNatClampNeg) (show x1.toNatClampNeg < 64 by (have kc_1 := isBin_t c_1); (have qL := at_i hlo (x := x1) (by omega)); (have cc9 := cl_i (x := x1) (by omega));  omega)).1 cf_15 us0 (by decide) fl_6_149 (rfl) d6_lot_19 ?_
      refine lv_icmp_lt (tgt := 27) hx hb d6_lot_22 (by decide) (fun c_3 => ?_) (fun c_3 => ?_)
      · refine lv_iload_n hx hb d6_lot_27 rfl (lv_at hl 3 rfl) ?_
        refine lv_if_eq (tgt := 45) hx hb d6_lot_28 (by decide) (fun c_4 => ?_) (fun c_4 => ?_)
        · refine lv_aload_n hx hb d6_lot_45 rfl (lv_at hl 0 rfl) ?_
          refine sr_get (v := .ref (ad 3 0)) hx hb hw hown hK hB 2 (hX.1 0 (by decide)) cf_0 us6 (by decide) fl_6_23 (rfl) d6_lot_46 ?_
          refine lv_iload_n hx hb d6_lot_49 rfl (lv_at hl 1 rfl) ?_
          refine sr_aald (v := some (x1.toNatClampNeg)) hx hb hK hB (hX.1 3 (by decide)) rfl rfl rfl (by (refine vp_in_iff.mpr ?_); (show 0 ≤ x1.toInt ∧ x1.toInt < ((64 : Nat) : Int)); (have kc_1 := isBin_t c_1); (have kc_3 := lt_i c_3); (have l15 : (15 : Int32).toInt = 15 := rfl); (have l3 : (3 : Int32).toInt = 3 := rfl); (have qL := at_i hlo (x := x1) (by omega));  omega) d6_lot_50 (by exact gb hX (show x1.toNatClampNeg < 64 by (have kc_1 := isBin_t c_1); (have kc_3 := lt_i c_3); (have l15 : (15 : Int32).toInt = 15 := rfl); (have l3 : (3 : Int32).toInt = 3 := rfl); (have qL := at_i hlo (x := x1) (by omega)); (have cc9 := cl_i (x := x1) (by omega));  omega)) ?_
          refine sr_get (v := .ref (ad 17 (x1.toNatClampNeg))) hx hb hw hown hK hB 1 (hX.2.2.1 (x1.toNatClampNeg) (show x1.toNatClampNeg < 64 by (have kc_1 := isBin_t c_1); (have kc_3 := lt_i c_3); (have l15 : (15 : Int32).toInt = 15 := rfl); (have l3 : (3 : Int32).toInt = 3 := rfl); (have qL := at_i hlo (x := x1) (by omega)); (have cc9 := cl_i (x := x1) (by omega));  omega)).1 cf_15 us0 (by decide) fl_6_236 (rfl) d6_lot_51 ?_
          refine lv_iload_n hx hb d6_lot_54 rfl (lv_at hl 2 rfl) ?_
          refine sr_iald (v := A 17 (x1.toNatClampNeg) (x2.toNatClampNeg)) hx hb hK hB (hX.2.2.1 (x1.toNatClampNeg) (show x1.toNatClampNeg < 64 by (have kc_1 := isBin_t c_1); (have kc_3 := lt_i c_3); (have l15 : (15 : Int32).toInt = 15 := rfl); (have l3 : (3 : Int32).toInt = 3 := rfl); (have qL := at_i hlo (x := x1) (by omega)); (have cc9 := cl_i (x := x1) (by omega));  omega)).2.2 rfl rfl (by (refine vp_in_iff.mpr ?_); (show 0 ≤ x2.toInt ∧ x2.toInt < ((6 : Nat) : Int)); (have kc_1 := isBin_t c_1); (have kc_2 := nlt_i c_2); (have kc_3 := lt_i c_3); (have l0 : (0 : Int32).toInt = 0 := rfl); (have l15 : (15 : Int32).toInt = 15 := rfl); (have l3 : (3 : Int32).toInt = 3 := rfl); (have qL := at_i hlo (x := x1) (by omega));  omega) d6_lot_55 (rfl) ?_
          exact se_pi C0 (by rw [if_neg c_1, if_neg c_2, if_pos c_3, if_pos c_4] at hO; exact hO) d6_lot_56
        · refine lv_aload_n hx hb d6_lot_31 rfl (lv_at hl 0 rfl) ?_
          refine sr_get (v := .ref (ad 3 0)) hx hb hw hown hK hB 2 (hX.1 0 (by decide)) cf_0 us6 (by decide) fl_6_23 (rfl) d6_lot_32 ?_
          refine lv_iload_n hx hb d6_lot_35 rfl (lv_at hl 1 rfl) ?_
          refine sr_aald (v := some (x1.toNatClampNeg)) hx hb hK hB (hX.1 3 (by decide)) rfl rfl rfl (by (refine vp_in_iff.mpr ?_); (show 0 ≤ x1.toInt ∧ x1.toInt < ((64 : Nat) : Int)); (have kc_1 := isBin_t c_1); (have kc_3 := lt_i c_3); (have l15 : (15 : Int32).toInt = 15 := rfl); (have l3 : (3 : Int32).toInt = 3 := rfl); (have qL := at_i hlo (x := x1) (by omega));  omega) d6_lot_36 (by exact gb hX (show x1.toNatClampNeg < 64 by (have kc_1 := isBin_t c_1); (have kc_3 := lt_i c_3); (have l15 : (15 : Int32).toInt = 15 := rfl); (have l3 : (3 : Int32).toInt = 3 := rfl); (have qL := at_i hlo (x := x1) (by omega)); (have cc9 := cl_i (x := x1) (by omega));  omega)) ?_
          refine sr_get (v := .ref (ad 16 (x1.toNatClampNeg))) hx hb hw hown hK hB 0 (hX.2.2.1 (x1.toNatClampNeg) (show x1.toNatClampNeg < 64 by (have kc_1 := isBin_t c_1); (have kc_3 := lt_i c_3); (have l15 : (15 : Int32).toInt = 15 := rfl); (have l3 : (3 : Int32).toInt = 3 := rfl); (have qL := at_i hlo (x := x1) (by omega)); (have cc9 := cl_i (x := x1) (by omega));  omega)).1 cf_15 us0 (by decide) fl_6_233 (rfl) d6_lot_37 ?_
          refine lv_iload_n hx hb d6_lot_40 rfl (lv_at hl 2 rfl) ?_
          refine sr_iald (v := A 16 (x1.toNatClampNeg) (x2.toNatClampNeg)) hx hb hK hB (hX.2.2.1 (x1.toNatClampNeg) (show x1.toNatClampNeg < 64 by (have kc_1 := isBin_t c_1); (have kc_3 := lt_i c_3); (have l15 : (15 : Int32).toInt = 15 := rfl); (have l3 : (3 : Int32).toInt = 3 := rfl); (have qL := at_i hlo (x := x1) (by omega)); (have cc9 := cl_i (x := x1) (by omega));  omega)).2.1 rfl rfl (by (refine vp_in_iff.mpr ?_); (show 0 ≤ x2.toInt ∧ x2.toInt < ((6 : Nat) : Int)); (have kc_1 := isBin_t c_1); (have kc_2 := nlt_i c_2); (have kc_3 := lt_i c_3); (have l0 : (0 : Int32).toInt = 0 := rfl); (have l15 : (15 : Int32).toInt = 15 := rfl); (have l3 : (3 : Int32).toInt = 3 := rfl); (have qL := at_i hlo (x := x1) (by omega));  omega) d6_lot_41 (rfl) ?_
          refine lv_goto (tgt := 56) hx hb d6_lot_42 (by decide) ?_
          exact se_pi C0 (by rw [if_neg c_1, if_neg c_2, if_pos c_3, if_neg c_4] at hO; exact hO) d6_lot_56
      · refine lv_iconst (v := (-1)) hx hb d6_lot_25 (by decide) ?_
        exact se_pi C0 (by rw [if_neg c_1, if_neg c_2, if_neg c_3] at hO; exact hO) d6_lot_26
theorem hd6_lot : y6_lot.cls = R6 ∧ y6_lot.cls ≠ "java/lang/invoke/MethodHandle" ∧ y6_lot.cls ≠ "java/lang/invoke/VarHandle" ∧ (parseMethodDescriptor y6_lot.desc).map (fun d => d.parameters.length) = some 3 := ⟨rfl, by decide, by decide, by decide +kernel⟩
theorem m6_lot {l : Launch} {D : va_G} {aC : Nat → ClassId} {ad : Nat → Nat → Nat} {X : Nat → Nat → Prop} {S A : sS} {G : sG} (hX : xC X G) (x1 : Int32) (x2 : Int32) (x3 : Int32) (hlo : ∀ i, i < 64 → 0 ≤ (S 15 i 3).toInt ∧ (S 15 i 3).toInt ≤ 6) : Met l y6_lot (.code y6_lot b6_lot 4 (some .int) :: wall) (rmk 1) (s_Pc [.ref (ad 0 0), .int x1, .int x2, .int x3] D aC ad X S A G) (s_Qp (V6_lot S A G x1 x2 x3)) 0 0 (fun _ => False) :=
  s_met (by decide) rfl (Nat.le_of_ble_eq_true rfl) (fun p e s m args below meth c C0 hB ls hl => k6_lot_0 C0 hB hX x1 x2 x3 hlo hl rfl)

def V6_stock (S A : sS) (G : sG) (x1 : Int32) (x2 : Int32) : Int32 := if V6_isItem S A G x1 = 0 then (-1) else if x2 = 0 then V6_givenOf S A G x1 else if x2 = 1 then V6_belowPar S A G x1 else if x2 = 2 then S 13 (x1.toNatClampNeg) 2 else (-1)
set_option maxRecDepth 100000 in
set_option maxHeartbeats 4000000 in
theorem k6_stock_0 {p : Program} {l : Launch} {e : Env} {s : State} {m : MethodId} {args : Array Value} {below : List Frame} {meth : Method} {c : Code} {D : va_G} {aC : Nat → ClassId} {ad : Nat → Nat → Nat} {X : Nat → Nat → Prop} {S A : sS} {G : sG} (C0 : s_C p s m args meth c b6_stock 3 R6 (some .int) D aC) (hB : s_B D aC ad X (s_N ad X) S A G s.heap s.heap []) (hX : xC X G) (x1 : Int32) (x2 : Int32) (hlo : ∀ i, i < 64 → 0 ≤ (S 15 i 3).toInt ∧ (S 15 i 3).toInt ≤ 6) {ls : Array Slot} (hl : lv_has ls 3 [(0, .ref (ad 0 0)), (1, .int x1), (2, .int x2)]) {o : Int32} (hO : V6_stock S A G x1 x2 = o) : W p l e (rmk 4) s m args below meth c s.heap [] 0 0 (MQ below (s_Qp o) args s 0 0 (fun _ => False)) (F0 m 0 ls []) := by
  obtain ⟨hx, hb, hml, hown, hw, hK, hr, hlocks⟩ := id C0
  unfold V6_stock at hO
  refine lv_aload_n hx hb d6_stock_0 rfl (lv_at hl 0 rfl) ?_
  refine lv_iload_n hx hb d6_stock_1 rfl (lv_at hl 1 rfl) ?_
  refine sr_vp C0 hB (m6_isItem hX x1 ) (hX.1 0 (by decide)) cf_0 ml_6_101 im_6_isItem se_6_isItem in_6 cd_6_isItem hd6_isItem ⟨⟨rfl, rfl⟩, by decide, by decide⟩ ⟨Nat.zero_le _, Nat.zero_le _⟩ hl.1 rfl (Nat.le_of_ble_eq_true rfl) d6_stock_2 ?_
  refine lv_if_ne (tgt := 10) hx hb d6_stock_5 (by decide) (fun c_1 => ?_) (fun c_1 => ?_)
  · refine lv_iload_n hx hb d6_stock_10 rfl (lv_at hl 2 rfl) ?_
    by_cases c_2 : x2 = 0
    · refine lv_tableIn (tgt := 36) (off := 25) hx hb d6_stock_11 (by rw [c_2]; decide) (by rw [c_2]; decide) (by rw [c_2]; rfl) (by decide) ?_
      refine lv_aload_n hx hb d6_stock_36 rfl (lv_at hl 0 rfl) ?_
      refine lv_iload_n hx hb d6_stock_37 rfl (lv_at hl 1 rfl) ?_
      refine sr_vp C0 hB (m6_givenOf hX x1 (by (have kc_1 := (isItem_t c_1).1);  first | assumption | omega)) (hX.1 0 (by decide)) cf_0 ml_6_239 im_6_givenOf se_6_givenOf in_6 cd_6_givenOf hd6_givenOf ⟨⟨rfl, rfl⟩, by decide, by decide⟩ ⟨Nat.zero_le _, Nat.zero_le _⟩ hl.1 rfl (Nat.le_of_ble_eq_true rfl) d6_stock_38 ?_
      exact se_pi C0 (by rw [if_neg c_1, if_pos c_2] at hO; exact hO) d6_stock_41
    · by_cases c_3 : x2 = 1
      · refine lv_tableIn (tgt := 42) (off := 31) hx hb d6_stock_11 (by rw [c_3]; decide) (by rw [c_3]; decide) (by rw [c_3]; rfl) (by decide) ?_
        refine lv_aload_n hx hb d6_stock_42 rfl (lv_at hl 0 rfl) ?_
        refine lv_iload_n hx hb d6_stock_43 rfl (lv_at hl 1 rfl) ?_
        refine sr_vp C0 hB (m6_belowPar hX x1 (by (have kc_1 := (isItem_t c_1).1);  first | assumption | omega) (by (have kc_1 := (isItem_t c_1).1);  first | assumption | omega) ((isItem_t c_1).2)) (hX.1 0 (by decide)) cf_0 ml_6_242 im_6_belowPar se_6_belowPar in_6 cd_6_belowPar hd6_belowPar ⟨⟨rfl, rfl⟩, by decide, by decide⟩ ⟨Nat.zero_le _, Nat.zero_le _⟩ hl.1 rfl (Nat.le_of_ble_eq_true rfl) d6_stock_44 ?_
        exact se_pi C0 (by rw [if_neg c_1, if_neg c_2, if_pos c_3] at hO; exact hO) d6_stock_47
      · by_cases c_4 : x2 = 2
        · refine lv_tableIn (tgt := 48) (off := 37) hx hb d6_stock_11 (by rw [c_4]; decide) (by rw [c_4]; decide) (by rw [c_4]; rfl) (by decide) ?_
          refine lv_aload_n hx hb d6_stock_48 rfl (lv_at hl 0 rfl) ?_
          refine sr_get (v := .ref (ad 2 0)) hx hb hw hown hK hB 1 (hX.1 0 (by decide)) cf_0 us6 (by decide) fl_6_17 (rfl) d6_stock_49 ?_
          refine lv_iload_n hx hb d6_stock_52 rfl (lv_at hl 1 rfl) ?_
          refine sr_aald (v := some (x1.toNatClampNeg)) hx hb hK hB (hX.1 2 (by decide)) rfl rfl rfl (by (refine vp_in_iff.mpr ?_); (show 0 ≤ x1.toInt ∧ x1.toInt < ((32 : Nat) : Int)); (have kc_1 := (isItem_t c_1).1);  omega) d6_stock_53 (by exact (gi hX (i := x1.toNatClampNeg) ((isItem_t c_1).2)).1) ?_
          refine sr_get (v := .int (S 13 (x1.toNatClampNeg) 2)) hx hb hw hown hK hB 2 (gi hX (i := x1.toNatClampNeg) ((isItem_t c_1).2)).2 cf_13 us1 (by decide) fl_6_222 (rfl) d6_stock_54 ?_
          exact se_pi C0 (by rw [if_neg c_1, if_neg c_2, if_neg c_3, if_pos c_4] at hO; exact hO) d6_stock_57
        · refine lv_tableOut (tgt := 58) hx hb d6_stock_11 (tab_out 3 (by decide) (by decide) (fun k hk h => by rcases (show k = 0 ∨ k = 1 ∨ k = 2 by omega) with rfl | rfl | rfl <;> first | exact c_2 h | exact c_3 h | exact c_4 h)) (by decide) ?_
          refine lv_iconst (v := (-1)) hx hb d6_stock_58 (by decide) ?_
          exact se_pi C0 (by rw [if_neg c_1, if_neg c_2, if_neg c_3, if_neg c_4] at hO; exact hO) d6_stock_59
  · refine lv_iconst (v := (-1)) hx hb d6_stock_8 (by decide) ?_
    exact se_pi C0 (by rw [if_pos c_1] at hO; exact hO) d6_stock_9
theorem hd6_stock : y6_stock.cls = R6 ∧ y6_stock.cls ≠ "java/lang/invoke/MethodHandle" ∧ y6_stock.cls ≠ "java/lang/invoke/VarHandle" ∧ (parseMethodDescriptor y6_stock.desc).map (fun d => d.parameters.length) = some 2 := ⟨rfl, by decide, by decide, by decide +kernel⟩
theorem m6_stock {l : Launch} {D : va_G} {aC : Nat → ClassId} {ad : Nat → Nat → Nat} {X : Nat → Nat → Prop} {S A : sS} {G : sG} (hX : xC X G) (x1 : Int32) (x2 : Int32) (hlo : ∀ i, i < 64 → 0 ≤ (S 15 i 3).toInt ∧ (S 15 i 3).toInt ≤ 6) : Met l y6_stock (.code y6_stock b6_stock 3 (some .int) :: wall) (rmk 4) (s_Pc [.ref (ad 0 0), .int x1, .int x2] D aC ad X S A G) (s_Qp (V6_stock S A G x1 x2)) 0 0 (fun _ => False) :=
  s_met (by decide) rfl (Nat.le_of_ble_eq_true rfl) (fun p e s m args below meth c C0 hB ls hl => k6_stock_0 C0 hB hX x1 x2 hlo hl rfl)

def V6_wanted_4 (G : sG) (x1 : Int32) : Nat → sS → sS → Int32 → Nat → Int32
  | 0, S, A, _, _ => 0
  | r + 1, S, A, z2, j3 => if 32 ≤ nI j3 then (-1) else if V6_isItem S A G (nI j3) = 0 then V6_wanted_4 G x1 r S A z2 (j3 + 1) else if V6_belowPar S A G (nI j3) ≤ 0 then V6_wanted_4 G x1 r S A z2 (j3 + 1) else if z2 = x1 then nI j3 else V6_wanted_4 G x1 r S A (z2 + 1) (j3 + 1)
def V6_wanted (S A : sS) (G : sG) (x1 : Int32) : Int32 := V6_wanted_4 G x1 33 S A 0 0
set_option maxRecDepth 100000 in
set_option maxHeartbeats 4000000 in
theorem k6_wanted_4 {p : Program} {l : Launch} {e : Env} {s : State} {m : MethodId} {args : Array Value} {below : List Frame} {meth : Method} {c : Code} {D : va_G} {aC : Nat → ClassId} {ad : Nat → Nat → Nat} {X : Nat → Nat → Prop} {G : sG} {S A : sS} (C0 : s_C p s m args meth c b6_wanted 4 R6 (some .int) D aC) (hB : s_B D aC ad X (s_N ad X) S A G s.heap s.heap []) (hX : xC X G) (x1 : Int32) (hlo : ∀ i, i < 64 → 0 ≤ (S 15 i 3).toInt ∧ (S 15 i 3).toInt ≤ 6) : ∀ (r : Nat) (z2 : Int32) (j3 : Nat) (hj : j3 ≤ 32) (hr3 : 32 < j3 + r) {ls : Array Slot} (hl : lv_has ls 4 [(0, .ref (ad 0 0)), (1, .int x1), (2, .int z2), (3, .int (nI j3))]) {o : Int32} (hO : V6_wanted_4 G x1 r S A z2 j3 = o), W p l e (rmk 4) s m args below meth c s.heap [] 0 0 (MQ below (s_Qp o) args s 0 0 (fun _ => False)) (F0 m 4 ls []) := by
  obtain ⟨hx, hb, hml, hown, hw, hK, hr, hlocks⟩ := id C0
  intro r
  induction r with
  | zero =>
    intro z2 j3 hj hr3 ls hl o hO
    exact absurd hr3 (by omega)
  | succ r ih =>
    intro z2 j3 hj hr3 ls hl o hO
    rw [V6_wanted_4] at hO
    refine lv_iload_n hx hb d6_wanted_4 rfl (lv_at hl 3 rfl) ?_
    refine lv_bipush (v := 32) hx hb d6_wanted_5 (by decide) ?_
    refine lv_icmp_ge (tgt := 42) hx hb d6_wanted_7 (by decide) (fun c_1 => ?_) (fun c_1 => ?_)
    · refine lv_iconst (v := (-1)) hx hb d6_wanted_42 (by decide) ?_
      exact se_pi C0 (by rw [if_pos c_1] at hO; exact hO) d6_wanted_43
    · refine lv_aload_n hx hb d6_wanted_10 rfl (lv_at hl 0 rfl) ?_
      refine lv_iload_n hx hb d6_wanted_11 rfl (lv_at hl 3 rfl) ?_
      refine sr_vp C0 hB (m6_isItem hX (nI j3) ) (hX.1 0 (by decide)) cf_0 ml_6_101 im_6_isItem se_6_isItem in_6 cd_6_isItem hd6_isItem ⟨⟨rfl, rfl⟩, by decide, by decide⟩ ⟨Nat.zero_le _, Nat.zero_le _⟩ hl.1 rfl (Nat.le_of_ble_eq_true rfl) d6_wanted_12 ?_
      refine lv_if_eq (tgt := 36) hx hb d6_wanted_15 (by decide) (fun c_2 => ?_) (fun c_2 => ?_)
      · refine lv_iinc (v := nI (j3 + 1)) (lv' := [(3, .int (nI (j3 + 1))), (0, .ref (ad 0 0)), (1, .int x1), (2, .int z2)]) hx hb d6_wanted_36 hl (k := 3) rfl (nI_1 j3) (by decide) rfl (fun ls hl => ?_)
        refine lv_goto (tgt := 4) hx hb d6_wanted_39 (by decide) ?_
        exact ih z2 (j3 + 1) (by (have aj3 := nI_toInt (n := j3) (by omega)); (have kc_1 := nle_i c_1); (have l32 : (32 : Int32).toInt = 32 := rfl);  omega) (by (have aj3 := nI_toInt (n := j3) (by omega)); (have kc_1 := nle_i c_1); (have l32 : (32 : Int32).toInt = 32 := rfl);  omega) (lv_sub hl [1, 2, 3, 0] rfl) (by rw [if_neg c_1, if_pos c_2] at hO; exact hO)
      · refine lv_aload_n hx hb d6_wanted_18 rfl (lv_at hl 0 rfl) ?_
        refine lv_iload_n hx hb d6_wanted_19 rfl (lv_at hl 3 rfl) ?_
        refine sr_vp C0 hB (m6_belowPar hX (nI j3) (by (have aj3 := nI_toInt (n := j3) (by omega)); (have kc_1 := nle_i c_1); (have kc_2 := (isItem_t c_2).1); (have l32 : (32 : Int32).toInt = 32 := rfl);  first | assumption | omega) (by (have aj3 := nI_toInt (n := j3) (by omega)); (have kc_1 := nle_i c_1); (have kc_2 := (isItem_t c_2).1); (have l32 : (32 : Int32).toInt = 32 := rfl);  first | assumption | omega) ((isItem_t c_2).2)) (hX.1 0 (by decide)) cf_0 ml_6_242 im_6_belowPar se_6_belowPar in_6 cd_6_belowPar hd6_belowPar ⟨⟨rfl, rfl⟩, by decide, by decide⟩ ⟨Nat.zero_le _, Nat.zero_le _⟩ hl.1 rfl (Nat.le_of_ble_eq_true rfl) d6_wanted_20 ?_
        refine lv_if_le (tgt := 36) hx hb d6_wanted_23 (by decide) (fun c_3 => ?_) (fun c_3 => ?_)
        · refine lv_iinc (v := nI (j3 + 1)) (lv' := [(3, .int (nI (j3 + 1))), (0, .ref (ad 0 0)), (1, .int x1), (2, .int z2)]) hx hb d6_wanted_36 hl (k := 3) rfl (nI_1 j3) (by decide) rfl (fun ls hl => ?_)
          refine lv_goto (tgt := 4) hx hb d6_wanted_39 (by decide) ?_
          exact ih z2 (j3 + 1) (by (have aj3 := nI_toInt (n := j3) (by omega)); (have kc_1 := nle_i c_1); (have kc_2 := (isItem_t c_2).1); (have kc_3 := le_i c_3); (have l0 : (0 : Int32).toInt = 0 := rfl); (have l32 : (32 : Int32).toInt = 32 := rfl);  omega) (by (have aj3 := nI_toInt (n := j3) (by omega)); (have kc_1 := nle_i c_1); (have kc_2 := (isItem_t c_2).1); (have kc_3 := le_i c_3); (have l0 : (0 : Int32).toInt = 0 := rfl); (have l32 : (32 : Int32).toInt = 32 := rfl);  omega) (lv_sub hl [1, 2, 3, 0] rfl) (by rw [if_neg c_1, if_neg c_2, if_pos c_3] at hO; exact hO)
        · refine lv_iload_n hx hb d6_wanted_26 rfl (lv_at hl 2 rfl) ?_
          refine lv_iload_n hx hb d6_wanted_27 rfl (lv_at hl 1 rfl) ?_
          refine lv_icmp_ne (tgt := 33) hx hb d6_wanted_28 (by decide) (fun c_4 => ?_) (fun c_4 => ?_)
          · refine lv_iinc (v := z2 + 1) (lv' := [(2, .int (z2 + 1)), (0, .ref (ad 0 0)), (1, .int x1), (3, .int (nI j3))]) hx hb d6_wanted_33 hl (k := 2) rfl (rfl) (by decide) rfl (fun ls hl => ?_)
            refine lv_iinc (v := nI (j3 + 1)) (lv' := [(3, .int (nI (j3 + 1))), (2, .int (z2 + 1)), (0, .ref (ad 0 0)), (1, .int x1)]) hx hb d6_wanted_36 hl (k := 3) rfl (nI_1 j3) (by decide) rfl (fun ls hl => ?_)
            refine lv_goto (tgt := 4) hx hb d6_wanted_39 (by decide) ?_
            exact ih (z2 + 1) (j3 + 1) (by (have aj3 := nI_toInt (n := j3) (by omega)); (have kc_1 := nle_i c_1); (have kc_2 := (isItem_t c_2).1); (have kc_3 := nle_i c_3); (have kc_4 := ne_i c_4); (have l0 : (0 : Int32).toInt = 0 := rfl); (have l32 : (32 : Int32).toInt = 32 := rfl);  omega) (by (have aj3 := nI_toInt (n := j3) (by omega)); (have kc_1 := nle_i c_1); (have kc_2 := (isItem_t c_2).1); (have kc_3 := nle_i c_3); (have kc_4 := ne_i c_4); (have l0 : (0 : Int32).toInt = 0 := rfl); (have l32 : (32 : Int32).toInt = 32 := rfl);  omega) (lv_sub hl [2, 3, 1, 0] rfl) (by rw [if_neg c_1, if_neg c_2, if_neg c_3, if_neg c_4] at hO; exact hO)
          · refine lv_iload_n hx hb d6_wanted_31 rfl (lv_at hl 3 rfl) ?_
            exact se_pi C0 (by rw [if_neg c_1, if_neg c_2, if_neg c_3, if_pos c_4] at hO; exact hO) d6_wanted_32
set_option maxRecDepth 100000 in
set_option maxHeartbeats 4000000 in
theorem k6_wanted_0 {p : Program} {l : Launch} {e : Env} {s : State} {m : MethodId} {args : Array Value} {below : List Frame} {meth : Method} {c : Code} {D : va_G} {aC : Nat → ClassId} {ad : Nat → Nat → Nat} {X : Nat → Nat → Prop} {S A : sS} {G : sG} (C0 : s_C p s m args meth c b6_wanted 4 R6 (some .int) D aC) (hB : s_B D aC ad X (s_N ad X) S A G s.heap s.heap []) (hX : xC X G) (x1 : Int32) (hlo : ∀ i, i < 64 → 0 ≤ (S 15 i 3).toInt ∧ (S 15 i 3).toInt ≤ 6) {ls : Array Slot} (hl : lv_has ls 4 [(0, .ref (ad 0 0)), (1, .int x1)]) {o : Int32} (hO : V6_wanted S A G x1 = o) : W p l e (rmk 4) s m args below meth c s.heap [] 0 0 (MQ below (s_Qp o) args s 0 0 (fun _ => False)) (F0 m 0 ls []) := by
  obtain ⟨hx, hb, hml, hown, hw, hK, hr, hlocks⟩ := id C0
  unfold V6_wanted at hO
  refine lv_iconst (v := 0) hx hb d6_wanted_0 (by decide) ?_
  refine lv_istore_n (lv' := [(2, .int 0), (0, .ref (ad 0 0)), (1, .int x1)]) hx hb d6_wanted_1 rfl hl (by decide) rfl (fun ls hl => ?_)
  refine lv_iconst (v := 0) hx hb d6_wanted_2 (by decide) ?_
  refine lv_istore_n (lv' := [(3, .int 0), (2, .int 0), (0, .ref (ad 0 0)), (1, .int x1)]) hx hb d6_wanted_3 rfl hl (by decide) rfl (fun ls hl => ?_)
  exact k6_wanted_4 C0 hB hX x1 hlo 33 0 0 (by  omega) (by  omega) (lv_sub hl [2, 3, 1, 0] rfl) (hO)
theorem hd6_wanted : y6_wanted.cls = R6 ∧ y6_wanted.cls ≠ "java/lang/invoke/MethodHandle" ∧ y6_wanted.cls ≠ "java/lang/invoke/VarHandle" ∧ (parseMethodDescriptor y6_wanted.desc).map (fun d => d.parameters.length) = some 1 := ⟨rfl, by decide, by decide, by decide +kernel⟩
theorem m6_wanted {l : Launch} {D : va_G} {aC : Nat → ClassId} {ad : Nat → Nat → Nat} {X : Nat → Nat → Prop} {S A : sS} {G : sG} (hX : xC X G) (x1 : Int32) (hlo : ∀ i, i < 64 → 0 ≤ (S 15 i 3).toInt ∧ (S 15 i 3).toInt ≤ 6) : Met l y6_wanted (.code y6_wanted b6_wanted 4 (some .int) :: wall) (rmk 4) (s_Pc [.ref (ad 0 0), .int x1] D aC ad X S A G) (s_Qp (V6_wanted S A G x1)) 0 0 (fun _ => False) :=
  s_met (by decide) rfl (Nat.le_of_ble_eq_true rfl) (fun p e s m args below meth c C0 hB ls hl => k6_wanted_0 C0 hB hX x1 hlo hl rfl)

def V6_orderTold (S A : sS) (G : sG) (x1 : Int32) (x2 : Int32) : Int32 := if V6_isOrder S A G x1 = 0 then (-1) else if x2 = 0 then S 14 (x1.toNatClampNeg) 0 else if x2 = 1 then S 14 (x1.toNatClampNeg) 3 else if x2 = 2 then if V3_isOpen S A G (x1.toNatClampNeg) (S 0 0 8) = 0 then 0 else 1 else (-1)
set_option maxRecDepth 100000 in
set_option maxHeartbeats 4000000 in
theorem k6_orderTold_0 {p : Program} {l : Launch} {e : Env} {s : State} {m : MethodId} {args : Array Value} {below : List Frame} {meth : Method} {c : Code} {D : va_G} {aC : Nat → ClassId} {ad : Nat → Nat → Nat} {X : Nat → Nat → Prop} {S A : sS} {G : sG} (C0 : s_C p s m args meth c b6_orderTold 3 R6 (some .int) D aC) (hB : s_B D aC ad X (s_N ad X) S A G s.heap s.heap []) (hX : xC X G) (x1 : Int32) (x2 : Int32) (hoc : 0 ≤ (S 0 0 13).toInt ∧ (S 0 0 13).toInt ≤ 60) (hgo : ∀ i : Nat, (i : Int) < (S 0 0 13).toInt → ¬ G 4 i = none) {ls : Array Slot} (hl : lv_has ls 3 [(0, .ref (ad 0 0)), (1, .int x1), (2, .int x2)]) {o : Int32} (hO : V6_orderTold S A G x1 x2 = o) : W p l e (rmk 1) s m args below meth c s.heap [] 0 0 (MQ below (s_Qp o) args s 0 0 (fun _ => False)) (F0 m 0 ls []) := by
  obtain ⟨hx, hb, hml, hown, hw, hK, hr, hlocks⟩ := id C0
  unfold V6_orderTold at hO
  refine lv_aload_n hx hb d6_orderTold_0 rfl (lv_at hl 0 rfl) ?_
  refine lv_iload_n hx hb d6_orderTold_1 rfl (lv_at hl 1 rfl) ?_
  refine sr_vp C0 hB (m6_isOrder hX x1 ) (hX.1 0 (by decide)) cf_0 ml_6_111 im_6_isOrder se_6_isOrder in_6 cd_6_isOrder hd6_isOrder ⟨⟨rfl, rfl⟩, by decide, by decide⟩ ⟨Nat.zero_le _, Nat.zero_le _⟩ hl.1 rfl (Nat.le_of_ble_eq_true rfl) d6_orderTold_2 ?_
  refine lv_if_ne (tgt := 10) hx hb d6_orderTold_5 (by decide) (fun c_1 => ?_) (fun c_1 => ?_)
  · refine lv_iload_n hx hb d6_orderTold_10 rfl (lv_at hl 2 rfl) ?_
    by_cases c_2 : x2 = 0
    · refine lv_tableIn (tgt := 36) (off := 25) hx hb d6_orderTold_11 (by rw [c_2]; decide) (by rw [c_2]; decide) (by rw [c_2]; rfl) (by decide) ?_
      refine lv_aload_n hx hb d6_orderTold_36 rfl (lv_at hl 0 rfl) ?_
      refine sr_get (v := .ref (ad 4 0)) hx hb hw hown hK hB 3 (hX.1 0 (by decide)) cf_0 us6 (by decide) fl_6_29 (rfl) d6_orderTold_37 ?_
      refine lv_iload_n hx hb d6_orderTold_40 rfl (lv_at hl 1 rfl) ?_
      refine sr_aald (v := some (x1.toNatClampNeg)) hx hb hK hB (hX.1 4 (by decide)) rfl rfl rfl (by (refine vp_in_iff.mpr ?_); (show 0 ≤ x1.toInt ∧ x1.toInt < ((60 : Nat) : Int)); (have kc_1 := isOrder_t c_1);  omega) d6_orderTold_41 (by exact (go hX (i := x1.toNatClampNeg) (by have q := isOrder_t c_1; exact hgo _ (by have := cl_i q.1; omega))).1) ?_
      refine sr_get (v := .int (S 14 (x1.toNatClampNeg) 0)) hx hb hw hown hK hB 0 (go hX (i := x1.toNatClampNeg) (by have q := isOrder_t c_1; exact hgo _ (by have := cl_i q.1; omega))).2 cf_14 us3 (by decide) fl_6_139 (rfl) d6_orderTold_42 ?_
      exact se_pi C0 (by rw [if_neg c_1, if_pos c_2] at hO; exact hO) d6_orderTold_45
    · by_cases c_3 : x2 = 1
      · refine lv_tableIn (tgt := 46) (off := 35) hx hb d6_orderTold_11 (by rw [c_3]; decide) (by rw [c_3]; decide) (by rw [c_3]; rfl) (by decide) ?_
        refine lv_aload_n hx hb d6_orderTold_46 rfl (lv_at hl 0 rfl) ?_
        refine sr_get (v := .ref (ad 4 0)) hx hb hw hown hK hB 3 (hX.1 0 (by decide)) cf_0 us6 (by decide) fl_6_29 (rfl) d6_orderTold_47 ?_
        refine lv_iload_n hx hb d6_orderTold_50 rfl (lv_at hl 1 rfl) ?_
        refine sr_aald (v := some (x1.toNatClampNeg)) hx hb hK hB (hX.1 4 (by decide)) rfl rfl rfl (by (refine vp_in_iff.mpr ?_); (show 0 ≤ x1.toInt ∧ x1.toInt < ((60 : Nat) : Int)); (have kc_1 := isOrder_t c_1);  omega) d6_orderTold_51 (by exact (go hX (i := x1.toNatClampNeg) (by have q := isOrder_t c_1; exact hgo _ (by have := cl_i q.1; omega))).1) ?_
        refine sr_get (v := .int (S 14 (x1.toNatClampNeg) 3)) hx hb hw hown hK hB 3 (go hX (i := x1.toNatClampNeg) (by have q := isOrder_t c_1; exact hgo _ (by have := cl_i q.1; omega))).2 cf_14 us3 (by decide) fl_6_123 (rfl) d6_orderTold_52 ?_
        exact se_pi C0 (by rw [if_neg c_1, if_neg c_2, if_pos c_3] at hO; exact hO) d6_orderTold_55
      · by_cases c_4 : x2 = 2
        · refine lv_tableIn (tgt := 56) (off := 45) hx hb d6_orderTold_11 (by rw [c_4]; decide) (by rw [c_4]; decide) (by rw [c_4]; rfl) (by decide) ?_
          refine lv_aload_n hx hb d6_orderTold_56 rfl (lv_at hl 0 rfl) ?_
          refine sr_get (v := .ref (ad 4 0)) hx hb hw hown hK hB 3 (hX.1 0 (by decide)) cf_0 us6 (by decide) fl_6_29 (rfl) d6_orderTold_57 ?_
          refine lv_iload_n hx hb d6_orderTold_60 rfl (lv_at hl 1 rfl) ?_
          refine sr_aald (v := some (x1.toNatClampNeg)) hx hb hK hB (hX.1 4 (by decide)) rfl rfl rfl (by (refine vp_in_iff.mpr ?_); (show 0 ≤ x1.toInt ∧ x1.toInt < ((60 : Nat) : Int)); (have kc_1 := isOrder_t c_1);  omega) d6_orderTold_61 (by exact (go hX (i := x1.toNatClampNeg) (by have q := isOrder_t c_1; exact hgo _ (by have := cl_i q.1; omega))).1) ?_
          refine lv_aload_n hx hb d6_orderTold_62 rfl (lv_at hl 0 rfl) ?_
          refine sr_get (v := .int (S 0 0 8)) hx hb hw hown hK hB 8 (hX.1 0 (by decide)) cf_0 us6 (by decide) fl_6_54 (rfl) d6_orderTold_63 ?_
          refine sr_vp C0 hB (m3_isOpen hX (x1.toNatClampNeg) (S 0 0 8) (go hX (i := x1.toNatClampNeg) (by have q := isOrder_t c_1; exact hgo _ (by have := cl_i q.1; omega))).2) (go hX (i := x1.toNatClampNeg) (by have q := isOrder_t c_1; exact hgo _ (by have := cl_i q.1; omega))).2 cf_14 ml_6_117 im_3_isOpen se_3_isOpen in_3 cd_3_isOpen hd3_isOpen ⟨⟨rfl, rfl⟩, by decide, by decide⟩ ⟨Nat.zero_le _, Nat.zero_le _⟩ hl.1 rfl (Nat.le_of_ble_eq_true rfl) d6_orderTold_66 ?_
          refine lv_if_eq (tgt := 76) hx hb d6_orderTold_69 (by decide) (fun c_5 => ?_) (fun c_5 => ?_)
          · refine lv_iconst (v := 0) hx hb d6_orderTold_76 (by decide) ?_
            exact se_pi C0 (by rw [if_neg c_1, if_neg c_2, if_neg c_3, if_pos c_4, if_pos c_5] at hO; exact hO) d6_orderTold_77
          · refine lv_iconst (v := 1) hx hb d6_orderTold_72 (by decide) ?_
            refine lv_goto (tgt := 77) hx hb d6_orderTold_73 (by decide) ?_
            exact se_pi C0 (by rw [if_neg c_1, if_neg c_2, if_neg c_3, if_pos c_4, if_neg c_5] at hO; exact hO) d6_orderTold_77
        · refine lv_tableOut (tgt := 78) hx hb d6_orderTold_11 (tab_out 3 (by decide) (by decide) (fun k hk h => by rcases (show k = 0 ∨ k = 1 ∨ k = 2 by omega) with rfl | rfl | rfl <;> first | exact c_2 h | exact c_3 h | exact c_4 h)) (by decide) ?_
          refine lv_iconst (v := (-1)) hx hb d6_orderTold_78 (by decide) ?_
          exact se_pi C0 (by rw [if_neg c_1, if_neg c_2, if_neg c_3, if_neg c_4] at hO; exact hO) d6_orderTold_79
  · refine lv_iconst (v := (-1)) hx hb d6_orderTold_8 (by decide) ?_
    exact se_pi C0 (by rw [if_pos c_1] at hO; exact hO) d6_orderTold_9
theorem hd6_orderTold : y6_orderTold.cls = R6 ∧ y6_orderTold.cls ≠ "java/lang/invoke/MethodHandle" ∧ y6_orderTold.cls ≠ "java/lang/invoke/VarHandle" ∧ (parseMethodDescriptor y6_orderTold.desc).map (fun d => d.parameters.length) = some 2 := ⟨rfl, by decide, by decide, by decide +kernel⟩
theorem m6_orderTold {l : Launch} {D : va_G} {aC : Nat → ClassId} {ad : Nat → Nat → Nat} {X : Nat → Nat → Prop} {S A : sS} {G : sG} (hX : xC X G) (x1 : Int32) (x2 : Int32) (hoc : 0 ≤ (S 0 0 13).toInt ∧ (S 0 0 13).toInt ≤ 60) (hgo : ∀ i : Nat, (i : Int) < (S 0 0 13).toInt → ¬ G 4 i = none) : Met l y6_orderTold (.code y6_orderTold b6_orderTold 3 (some .int) :: wall) (rmk 1) (s_Pc [.ref (ad 0 0), .int x1, .int x2] D aC ad X S A G) (s_Qp (V6_orderTold S A G x1 x2)) 0 0 (fun _ => False) :=
  s_met (by decide) rfl (Nat.le_of_ble_eq_true rfl) (fun p e s m args below meth c C0 hB ls hl => k6_orderTold_0 C0 hB hX x1 x2 hoc hgo hl rfl)

def V6_told (S A : sS) (G : sG) (x1 : Int32) : Int32 := if x1 = 0 then S 0 0 8 else if x1 = 1 then S 0 0 9 else if x1 = 2 then S 0 0 11 else if x1 = 3 then S 5 0 0 else if x1 = 4 then S 5 0 1 else if x1 = 5 then if V4_isOpen S A G  = 0 then (-1) else if S 5 0 4 = 0 then 0 else 1 else if x1 = 6 then S 6 0 1 else (-1)
set_option maxRecDepth 100000 in
set_option maxHeartbeats 4000000 in
theorem k6_told_0 {p : Program} {l : Launch} {e : Env} {s : State} {m : MethodId} {args : Array Value} {below : List Frame} {meth : Method} {c : Code} {D : va_G} {aC : Nat → ClassId} {ad : Nat → Nat → Nat} {X : Nat → Nat → Prop} {S A : sS} {G : sG} (C0 : s_C p s m args meth c b6_told 2 R6 (some .int) D aC) (hB : s_B D aC ad X (s_N ad X) S A G s.heap s.heap []) (hX : xC X G) (x1 : Int32)  {ls : Array Slot} (hl : lv_has ls 2 [(0, .ref (ad 0 0)), (1, .int x1)]) {o : Int32} (hO : V6_told S A G x1 = o) : W p l e (rmk 1) s m args below meth c s.heap [] 0 0 (MQ below (s_Qp o) args s 0 0 (fun _ => False)) (F0 m 0 ls []) := by
  obtain ⟨hx, hb, hml, hown, hw, hK, hr, hlocks⟩ := id C0
  unfold V6_told at hO
  refine lv_iload_n hx hb d6_told_0 rfl (lv_at hl 1 rfl) ?_
  by_cases c_1 : x1 = 0
  · refine lv_tableIn (tgt := 44) (off := 43) hx hb d6_told_1 (by rw [c_1]; decide) (by rw [c_1]; decide) (by rw [c_1]; rfl) (by decide) ?_
    refine lv_aload_n hx hb d6_told_44 rfl (lv_at hl 0 rfl) ?_
    refine sr_get (v := .int (S 0 0 8)) hx hb hw hown hK hB 8 (hX.1 0 (by decide)) cf_0 us6 (by decide) fl_6_54 (rfl) d6_told_45 ?_
    exact se_pi C0 (by rw [if_pos c_1] at hO; exact hO) d6_told_48
  · by_cases c_2 : x1 = 1
    · refine lv_tableIn (tgt := 49) (off := 48) hx hb d6_told_1 (by rw [c_2]; decide) (by rw [c_2]; decide) (by rw [c_2]; rfl) (by decide) ?_
      refine lv_aload_n hx hb d6_told_49 rfl (lv_at hl 0 rfl) ?_
      refine sr_get (v := .int (S 0 0 9)) hx hb hw hown hK hB 9 (hX.1 0 (by decide)) cf_0 us6 (by decide) fl_6_58 (rfl) d6_told_50 ?_
      exact se_pi C0 (by rw [if_neg c_1, if_pos c_2] at hO; exact hO) d6_told_53
    · by_cases c_3 : x1 = 2
      · refine lv_tableIn (tgt := 54) (off := 53) hx hb d6_told_1 (by rw [c_3]; decide) (by rw [c_3]; decide) (by rw [c_3]; rfl) (by decide) ?_
        refine lv_aload_n hx hb d6_told_54 rfl (lv_at hl 0 rfl) ?_
        refine sr_get (v := .int (S 0 0 11)) hx hb hw hown hK hB 11 (hX.1 0 (by decide)) cf_0 us6 (by decide) fl_6_64 (rfl) d6_told_55 ?_
        exact se_pi C0 (by rw [if_neg c_1, if_neg c_2, if_pos c_3] at hO; exact hO) d6_told_58
      · by_cases c_4 : x1 = 3
        · refine lv_tableIn (tgt := 59) (off := 58) hx hb d6_told_1 (by rw [c_4]; decide) (by rw [c_4]; decide) (by rw [c_4]; rfl) (by decide) ?_
          refine lv_aload_n hx hb d6_told_59 rfl (lv_at hl 0 rfl) ?_
          refine sr_get (v := .ref (ad 5 0)) hx hb hw hown hK hB 4 (hX.1 0 (by decide)) cf_0 us6 (by decide) fl_6_36 (rfl) d6_told_60 ?_
          refine sr_get (v := .int (S 5 0 0)) hx hb hw hown hK hB 0 (hX.1 5 (by decide)) cf_5 us4 (by decide) fl_6_188 (rfl) d6_told_63 ?_
          exact se_pi C0 (by rw [if_neg c_1, if_neg c_2, if_neg c_3, if_pos c_4] at hO; exact hO) d6_told_66
        · by_cases c_5 : x1 = 4
          · refine lv_tableIn (tgt := 67) (off := 66) hx hb d6_told_1 (by rw [c_5]; decide) (by rw [c_5]; decide) (by rw [c_5]; rfl) (by decide) ?_
            refine lv_aload_n hx hb d6_told_67 rfl (lv_at hl 0 rfl) ?_
            refine sr_get (v := .ref (ad 5 0)) hx hb hw hown hK hB 4 (hX.1 0 (by decide)) cf_0 us6 (by decide) fl_6_36 (rfl) d6_told_68 ?_
            refine sr_get (v := .int (S 5 0 1)) hx hb hw hown hK hB 1 (hX.1 5 (by decide)) cf_5 us4 (by decide) fl_6_165 (rfl) d6_told_71 ?_
            exact se_pi C0 (by rw [if_neg c_1, if_neg c_2, if_neg c_3, if_neg c_4, if_pos c_5] at hO; exact hO) d6_told_74
          · by_cases c_6 : x1 = 5
            · refine lv_tableIn (tgt := 75) (off := 74) hx hb d6_told_1 (by rw [c_6]; decide) (by rw [c_6]; decide) (by rw [c_6]; rfl) (by decide) ?_
              refine lv_aload_n hx hb d6_told_75 rfl (lv_at hl 0 rfl) ?_
              refine sr_get (v := .ref (ad 5 0)) hx hb hw hown hK hB 4 (hX.1 0 (by decide)) cf_0 us6 (by decide) fl_6_36 (rfl) d6_told_76 ?_
              refine sr_vp C0 hB (m4_isOpen hX  ) (hX.1 5 (by decide)) cf_5 ml_6_87 im_4_isOpen se_4_isOpen in_4 cd_4_isOpen hd4_isOpen ⟨⟨rfl, rfl⟩, by decide, by decide⟩ ⟨Nat.zero_le _, Nat.zero_le _⟩ hl.1 rfl (Nat.le_of_ble_eq_true rfl) d6_told_79 ?_
              refine lv_if_ne (tgt := 89) hx hb d6_told_82 (by decide) (fun c_7 => ?_) (fun c_7 => ?_)
              · refine lv_aload_n hx hb d6_told_89 rfl (lv_at hl 0 rfl) ?_
                refine sr_get (v := .ref (ad 5 0)) hx hb hw hown hK hB 4 (hX.1 0 (by decide)) cf_0 us6 (by decide) fl_6_36 (rfl) d6_told_90 ?_
                refine sr_get (v := .int (S 5 0 4)) hx hb hw hown hK hB 4 (hX.1 5 (by decide)) cf_5 us4 (by decide) fl_6_159 (rfl) d6_told_93 ?_
                refine lv_if_eq (tgt := 103) hx hb d6_told_96 (by decide) (fun c_8 => ?_) (fun c_8 => ?_)
                · refine lv_iconst (v := 0) hx hb d6_told_103 (by decide) ?_
                  exact se_pi C0 (by rw [if_neg c_1, if_neg c_2, if_neg c_3, if_neg c_4, if_neg c_5, if_pos c_6, if_neg c_7, if_pos c_8] at hO; exact hO) d6_told_104
                · refine lv_iconst (v := 1) hx hb d6_told_99 (by decide) ?_
                  refine lv_goto (tgt := 104) hx hb d6_told_100 (by decide) ?_
                  exact se_pi C0 (by rw [if_neg c_1, if_neg c_2, if_neg c_3, if_neg c_4, if_neg c_5, if_pos c_6, if_neg c_7, if_neg c_8] at hO; exact hO) d6_told_104
              · refine lv_iconst (v := (-1)) hx hb d6_told_85 (by decide) ?_
                refine lv_goto (tgt := 104) hx hb d6_told_86 (by decide) ?_
                exact se_pi C0 (by rw [if_neg c_1, if_neg c_2, if_neg c_3, if_neg c_4, if_neg c_5, if_pos c_6, if_pos c_7] at hO; exact hO) d6_told_104
            · by_cases c_9 : x1 = 6
              · refine lv_tableIn (tgt := 105) (off := 104) hx hb d6_told_1 (by rw [c_9]; decide) (by rw [c_9]; decide) (by rw [c_9]; rfl) (by decide) ?_
                refine lv_aload_n hx hb d6_told_105 rfl (lv_at hl 0 rfl) ?_
                refine sr_get (v := .ref (ad 6 0)) hx hb hw hown hK hB 5 (hX.1 0 (by decide)) cf_0 us6 (by decide) fl_6_43 (rfl) d6_told_106 ?_
                refine sr_get (v := .int (S 6 0 1)) hx hb hw hown hK hB 1 (hX.1 6 (by decide)) cf_6 us2 (by decide) fl_6_146 (rfl) d6_told_109 ?_
                exact se_pi C0 (by rw [if_neg c_1, if_neg c_2, if_neg c_3, if_neg c_4, if_neg c_5, if_neg c_6, if_pos c_9] at hO; exact hO) d6_told_112
              · refine lv_tableOut (tgt := 113) hx hb d6_told_1 (tab_out 7 (by decide) (by decide) (fun k hk h => by rcases (show k = 0 ∨ k = 1 ∨ k = 2 ∨ k = 3 ∨ k = 4 ∨ k = 5 ∨ k = 6 by omega) with rfl | rfl | rfl | rfl | rfl | rfl | rfl <;> first | exact c_1 h | exact c_2 h | exact c_3 h | exact c_4 h | exact c_5 h | exact c_6 h | exact c_9 h)) (by decide) ?_
                refine lv_iconst (v := (-1)) hx hb d6_told_113 (by decide) ?_
                exact se_pi C0 (by rw [if_neg c_1, if_neg c_2, if_neg c_3, if_neg c_4, if_neg c_5, if_neg c_6, if_neg c_9] at hO; exact hO) d6_told_114
theorem hd6_told : y6_told.cls = R6 ∧ y6_told.cls ≠ "java/lang/invoke/MethodHandle" ∧ y6_told.cls ≠ "java/lang/invoke/VarHandle" ∧ (parseMethodDescriptor y6_told.desc).map (fun d => d.parameters.length) = some 1 := ⟨rfl, by decide, by decide, by decide +kernel⟩
theorem m6_told {l : Launch} {D : va_G} {aC : Nat → ClassId} {ad : Nat → Nat → Nat} {X : Nat → Nat → Prop} {S A : sS} {G : sG} (hX : xC X G) (x1 : Int32)  : Met l y6_told (.code y6_told b6_told 2 (some .int) :: wall) (rmk 1) (s_Pc [.ref (ad 0 0), .int x1] D aC ad X S A G) (s_Qp (V6_told S A G x1)) 0 0 (fun _ => False) :=
  s_met (by decide) rfl (Nat.le_of_ble_eq_true rfl) (fun p e s m args below meth c C0 hB ls hl => k6_told_0 C0 hB hX x1  hl rfl)

def V6_entry (S A : sS) (G : sG) (x1 : Int32) (x2 : Int32) : Int32 := if x1 < 0 then (-1) else if S 6 0 1 ≤ x1 then (-1) else if x2 < 0 then (-1) else if x2 < 6 then if V2_wholeCopies S A G  = 0 then (-8) else V2_read S A G x1 x2 else (-1)
set_option maxRecDepth 100000 in
set_option maxHeartbeats 4000000 in
theorem k6_entry_0 {p : Program} {l : Launch} {e : Env} {s : State} {m : MethodId} {args : Array Value} {below : List Frame} {meth : Method} {c : Code} {D : va_G} {aC : Nat → ClassId} {ad : Nat → Nat → Nat} {X : Nat → Nat → Prop} {S A : sS} {G : sG} (C0 : s_C p s m args meth c b6_entry 3 R6 (some .int) D aC) (hB : s_B D aC ad X (s_N ad X) S A G s.heap s.heap []) (hX : xC X G) (x1 : Int32) (x2 : Int32) (hsz : 0 ≤ (S 6 0 1).toInt ∧ (S 6 0 1).toInt ≤ 300) {ls : Array Slot} (hl : lv_has ls 3 [(0, .ref (ad 0 0)), (1, .int x1), (2, .int x2)]) {o : Int32} (hO : V6_entry S A G x1 x2 = o) : W p l e (rmk 1) s m args below meth c s.heap [] 0 0 (MQ below (s_Qp o) args s 0 0 (fun _ => False)) (F0 m 0 ls []) := by
  obtain ⟨hx, hb, hml, hown, hw, hK, hr, hlocks⟩ := id C0
  unfold V6_entry at hO
  refine lv_iload_n hx hb d6_entry_0 rfl (lv_at hl 1 rfl) ?_
  refine lv_if_lt (tgt := 25) hx hb d6_entry_1 (by decide) (fun c_1 => ?_) (fun c_1 => ?_)
  · refine lv_iconst (v := (-1)) hx hb d6_entry_25 (by decide) ?_
    exact se_pi C0 (by rw [if_pos c_1] at hO; exact hO) d6_entry_26
  · refine lv_iload_n hx hb d6_entry_4 rfl (lv_at hl 1 rfl) ?_
    refine lv_aload_n hx hb d6_entry_5 rfl (lv_at hl 0 rfl) ?_
    refine sr_get (v := .ref (ad 6 0)) hx hb hw hown hK hB 5 (hX.1 0 (by decide)) cf_0 us6 (by decide) fl_6_43 (rfl) d6_entry_6 ?_
    refine sr_get (v := .int (S 6 0 1)) hx hb hw hown hK hB 1 (hX.1 6 (by decide)) cf_6 us2 (by decide) fl_6_146 (rfl) d6_entry_9 ?_
    refine lv_icmp_ge (tgt := 25) hx hb d6_entry_12 (by decide) (fun c_2 => ?_) (fun c_2 => ?_)
    · refine lv_iconst (v := (-1)) hx hb d6_entry_25 (by decide) ?_
      exact se_pi C0 (by rw [if_neg c_1, if_pos c_2] at hO; exact hO) d6_entry_26
    · refine lv_iload_n hx hb d6_entry_15 rfl (lv_at hl 2 rfl) ?_
      refine lv_if_lt (tgt := 25) hx hb d6_entry_16 (by decide) (fun c_3 => ?_) (fun c_3 => ?_)
      · refine lv_iconst (v := (-1)) hx hb d6_entry_25 (by decide) ?_
        exact se_pi C0 (by rw [if_neg c_1, if_neg c_2, if_pos c_3] at hO; exact hO) d6_entry_26
      · refine lv_iload_n hx hb d6_entry_19 rfl (lv_at hl 2 rfl) ?_
        refine lv_bipush (v := 6) hx hb d6_entry_20 (by decide) ?_
        refine lv_icmp_lt (tgt := 27) hx hb d6_entry_22 (by decide) (fun c_4 => ?_) (fun c_4 => ?_)
        · refine lv_aload_n hx hb d6_entry_27 rfl (lv_at hl 0 rfl) ?_
          refine sr_get (v := .ref (ad 6 0)) hx hb hw hown hK hB 5 (hX.1 0 (by decide)) cf_0 us6 (by decide) fl_6_43 (rfl) d6_entry_28 ?_
          refine sr_vp C0 hB (m2_wholeCopies hX  ) (hX.1 6 (by decide)) cf_6 ml_6_251 im_2_wholeCopies se_2_wholeCopies in_2 cd_2_wholeCopies hd2_wholeCopies ⟨⟨rfl, rfl⟩, by decide, by decide⟩ ⟨Nat.zero_le _, Nat.zero_le _⟩ hl.1 rfl (Nat.le_of_ble_eq_true rfl) d6_entry_31 ?_
          refine lv_if_ne (tgt := 40) hx hb d6_entry_34 (by decide) (fun c_5 => ?_) (fun c_5 => ?_)
          · refine lv_aload_n hx hb d6_entry_40 rfl (lv_at hl 0 rfl) ?_
            refine sr_get (v := .ref (ad 6 0)) hx hb hw hown hK hB 5 (hX.1 0 (by decide)) cf_0 us6 (by decide) fl_6_43 (rfl) d6_entry_41 ?_
            refine lv_iload_n hx hb d6_entry_44 rfl (lv_at hl 1 rfl) ?_
            refine lv_iload_n hx hb d6_entry_45 rfl (lv_at hl 2 rfl) ?_
            refine sr_vp C0 hB (m2_read hX x1 x2 (by (have kc_1 := nlt_i c_1); (have kc_2 := nle_i c_2); (have kc_3 := nlt_i c_3); (have kc_4 := lt_i c_4); (have l0 : (0 : Int32).toInt = 0 := rfl); (have l1 : (1 : Int32).toInt = 1 := rfl); (have l6 : (6 : Int32).toInt = 6 := rfl);  first | assumption | omega) (by (have kc_1 := nlt_i c_1); (have kc_2 := nle_i c_2); (have kc_3 := nlt_i c_3); (have kc_4 := lt_i c_4); (have l0 : (0 : Int32).toInt = 0 := rfl); (have l1 : (1 : Int32).toInt = 1 := rfl); (have l6 : (6 : Int32).toInt = 6 := rfl);  first | assumption | omega)) (hX.1 6 (by decide)) cf_6 ml_6_257 im_2_read se_2_read in_2 cd_2_read hd2_read ⟨⟨rfl, rfl⟩, by decide, by decide⟩ ⟨Nat.zero_le _, Nat.zero_le _⟩ hl.1 rfl (Nat.le_of_ble_eq_true rfl) d6_entry_46 ?_
            exact se_pi C0 (by rw [if_neg c_1, if_neg c_2, if_neg c_3, if_pos c_4, if_neg c_5] at hO; exact hO) d6_entry_49
          · refine lv_bipush (v := (-8)) hx hb d6_entry_37 (by decide) ?_
            exact se_pi C0 (by rw [if_neg c_1, if_neg c_2, if_neg c_3, if_pos c_4, if_pos c_5] at hO; exact hO) d6_entry_39
        · refine lv_iconst (v := (-1)) hx hb d6_entry_25 (by decide) ?_
          exact se_pi C0 (by rw [if_neg c_1, if_neg c_2, if_neg c_3, if_neg c_4] at hO; exact hO) d6_entry_26
theorem hd6_entry : y6_entry.cls = R6 ∧ y6_entry.cls ≠ "java/lang/invoke/MethodHandle" ∧ y6_entry.cls ≠ "java/lang/invoke/VarHandle" ∧ (parseMethodDescriptor y6_entry.desc).map (fun d => d.parameters.length) = some 2 := ⟨rfl, by decide, by decide, by decide +kernel⟩
theorem m6_entry {l : Launch} {D : va_G} {aC : Nat → ClassId} {ad : Nat → Nat → Nat} {X : Nat → Nat → Prop} {S A : sS} {G : sG} (hX : xC X G) (x1 : Int32) (x2 : Int32) (hsz : 0 ≤ (S 6 0 1).toInt ∧ (S 6 0 1).toInt ≤ 300) : Met l y6_entry (.code y6_entry b6_entry 3 (some .int) :: wall) (rmk 1) (s_Pc [.ref (ad 0 0), .int x1, .int x2] D aC ad X S A G) (s_Qp (V6_entry S A G x1 x2)) 0 0 (fun _ => False) :=
  s_met (by decide) rfl (Nat.le_of_ble_eq_true rfl) (fun p e s m args below meth c C0 hB ls hl => k6_entry_0 C0 hB hX x1 x2 hsz hl rfl)

def O6_lose (S A : sS) (G : sG) (x1 : Int32) : Int32 × sS × sS := if x1 < 0 then ((-1), S, A) else if x1 < 2 then (V2_wholeCopies S (up3 A 9 0 (x1.toNatClampNeg) 1) G , S, (up3 A 9 0 (x1.toNatClampNeg) 1)) else ((-1), S, A)
set_option maxRecDepth 100000 in
set_option maxHeartbeats 4000000 in
theorem k6_lose_0 {p : Program} {l : Launch} {e : Env} {s : State} {m : MethodId} {args : Array Value} {below : List Frame} {meth : Method} {c : Code} {D : va_G} {aC : Nat → ClassId} {ad : Nat → Nat → Nat} {X : Nat → Nat → Prop} {S A : sS} {G : sG} {H : Heap} {locs : List Loc} (C0 : s_C p s m args meth c b6_lose 2 R6 (some .int) D aC) (hB : s_B D aC ad X (s_N ad X) S A G s.heap H locs) (hX : xC X G) (x1 : Int32)  {ls : Array Slot} (hl : lv_has ls 2 [(0, .ref (ad 0 0)), (1, .int x1)]) {o : Int32 × sS × sS} (hO : O6_lose S A G x1 = o) : W p l e (rmk 1) s m args below meth c H locs 0 0 (MQ below (s_Qi D aC ad X G o) args s 0 0 (s_N ad X)) (F0 m 0 ls []) := by
  obtain ⟨hx, hb, hml, hown, hw, hK, hr, hlocks⟩ := id C0
  unfold O6_lose at hO
  refine lv_iload_n hx hb d6_lose_0 rfl (lv_at hl 1 rfl) ?_
  refine lv_if_lt (tgt := 9) hx hb d6_lose_1 (by decide) (fun c_1 => ?_) (fun c_1 => ?_)
  · refine lv_iconst (v := (-1)) hx hb d6_lose_9 (by decide) ?_
    exact se_i C0 hB (by rw [if_pos c_1] at hO; exact hO) d6_lose_10
  · refine lv_iload_n hx hb d6_lose_4 rfl (lv_at hl 1 rfl) ?_
    refine lv_iconst (v := 2) hx hb d6_lose_5 (by decide) ?_
    refine lv_icmp_lt (tgt := 11) hx hb d6_lose_6 (by decide) (fun c_2 => ?_) (fun c_2 => ?_)
    · refine lv_aload_n hx hb d6_lose_11 rfl (lv_at hl 0 rfl) ?_
      refine sr_get (v := .ref (ad 6 0)) hx hb hw hown hK hB 5 (hX.1 0 (by decide)) cf_0 us6 (by decide) fl_6_43 (rfl) d6_lose_12 ?_
      refine sr_get (v := .ref (ad 9 0)) hx hb hw hown hK hB 0 (hX.1 6 (by decide)) cf_6 us2 (by decide) fl_6_261 (rfl) d6_lose_15 ?_
      refine lv_iload_n hx hb d6_lose_18 rfl (lv_at hl 1 rfl) ?_
      refine lv_iconst (v := 1) hx hb d6_lose_19 (by decide) ?_
      refine sr_zast hx hb hK hB (hX.1 9 (by decide)) rfl rfl rfl (by (refine vp_in_iff.mpr ?_); (show 0 ≤ x1.toInt ∧ x1.toInt < ((2 : Nat) : Int)); (have kc_1 := nlt_i c_1); (have kc_2 := lt_i c_2); (have l0 : (0 : Int32).toInt = 0 := rfl); (have l2 : (2 : Int32).toInt = 2 := rfl);  omega) d6_lose_20 (fun H locs hB => ?_)
      refine lv_aload_n hx hb d6_lose_21 rfl (lv_at hl 0 rfl) ?_
      refine sr_get (v := .ref (ad 6 0)) hx hb hw hown hK hB 5 (hX.1 0 (by decide)) cf_0 us6 (by decide) fl_6_43 (rfl) d6_lose_22 ?_
      refine sr_vp C0 hB (m2_wholeCopies hX  ) (hX.1 6 (by decide)) cf_6 ml_6_251 im_2_wholeCopies se_2_wholeCopies in_2 cd_2_wholeCopies hd2_wholeCopies ⟨⟨rfl, rfl⟩, by decide, by decide⟩ ⟨Nat.zero_le _, Nat.zero_le _⟩ hl.1 rfl (Nat.le_of_ble_eq_true rfl) d6_lose_25 ?_
      exact se_i C0 hB (by rw [if_neg c_1, if_pos c_2] at hO; exact hO) d6_lose_28
    · refine lv_iconst (v := (-1)) hx hb d6_lose_9 (by decide) ?_
      exact se_i C0 hB (by rw [if_neg c_1, if_neg c_2] at hO; exact hO) d6_lose_10
theorem hd6_lose : y6_lose.cls = R6 ∧ y6_lose.cls ≠ "java/lang/invoke/MethodHandle" ∧ y6_lose.cls ≠ "java/lang/invoke/VarHandle" ∧ (parseMethodDescriptor y6_lose.desc).map (fun d => d.parameters.length) = some 1 := ⟨rfl, by decide, by decide, by decide +kernel⟩
theorem m6_lose {l : Launch} {D : va_G} {aC : Nat → ClassId} {ad : Nat → Nat → Nat} {X : Nat → Nat → Prop} {S A : sS} {G : sG} (hX : xC X G) (x1 : Int32)  : Met l y6_lose (.code y6_lose b6_lose 2 (some .int) :: wall) (rmk 1) (s_Pc [.ref (ad 0 0), .int x1] D aC ad X S A G) (s_Qi D aC ad X G (O6_lose S A G x1)) 0 0 (s_N ad X) :=
  s_met (by decide) rfl (Nat.le_of_ble_eq_true rfl) (fun p e s m args below meth c C0 hB ls hl => k6_lose_0 C0 hB hX x1  hl rfl)

def O6_repair_20 (S A : sS) (G : sG)  : Int32 × sS × sS := (V2_wholeCopies S A G , S, A)
def O6_repair (S A : sS) (G : sG)  : Int32 × sS × sS := if V2_wholeCopies S A G  = 0 then ((-8), S, A) else O6_repair_20 (O2_makeWhole S A G ).1 (O2_makeWhole S A G ).2 G 
set_option maxRecDepth 100000 in
set_option maxHeartbeats 4000000 in
theorem k6_repair_20 {p : Program} {l : Launch} {e : Env} {s : State} {m : MethodId} {args : Array Value} {below : List Frame} {meth : Method} {c : Code} {D : va_G} {aC : Nat → ClassId} {ad : Nat → Nat → Nat} {X : Nat → Nat → Prop} {S A : sS} {G : sG} {H : Heap} {locs : List Loc} (C0 : s_C p s m args meth c b6_repair 1 R6 (some .int) D aC) (hB : s_B D aC ad X (s_N ad X) S A G s.heap H locs) (hX : xC X G)   {ls : Array Slot} (hl : lv_has ls 1 [(0, .ref (ad 0 0))]) {o : Int32 × sS × sS} (hO : O6_repair_20 S A G  = o) : W p l e (rmk 2) s m args below meth c H locs 0 0 (MQ below (s_Qi D aC ad X G o) args s 0 0 (s_N ad X)) (F0 m 20 ls []) := by
  obtain ⟨hx, hb, hml, hown, hw, hK, hr, hlocks⟩ := id C0
  unfold O6_repair_20 at hO
  refine lv_aload_n hx hb d6_repair_20 rfl (lv_at hl 0 rfl) ?_
  refine sr_get (v := .ref (ad 6 0)) hx hb hw hown hK hB 5 (hX.1 0 (by decide)) cf_0 us6 (by decide) fl_6_43 (rfl) d6_repair_21 ?_
  refine sr_vp C0 hB (m2_wholeCopies hX  ) (hX.1 6 (by decide)) cf_6 ml_6_251 im_2_wholeCopies se_2_wholeCopies in_2 cd_2_wholeCopies hd2_wholeCopies ⟨⟨rfl, rfl⟩, by decide, by decide⟩ ⟨Nat.zero_le _, Nat.zero_le _⟩ hl.1 rfl (Nat.le_of_ble_eq_true rfl) d6_repair_24 ?_
  exact se_i C0 hB (hO) d6_repair_27
set_option maxRecDepth 100000 in
set_option maxHeartbeats 4000000 in
theorem k6_repair_0 {p : Program} {l : Launch} {e : Env} {s : State} {m : MethodId} {args : Array Value} {below : List Frame} {meth : Method} {c : Code} {D : va_G} {aC : Nat → ClassId} {ad : Nat → Nat → Nat} {X : Nat → Nat → Prop} {S A : sS} {G : sG} {H : Heap} {locs : List Loc} (C0 : s_C p s m args meth c b6_repair 1 R6 (some .int) D aC) (hB : s_B D aC ad X (s_N ad X) S A G s.heap H locs) (hX : xC X G)  (hsz : 0 ≤ (S 6 0 1).toInt ∧ (S 6 0 1).toInt ≤ 300) {ls : Array Slot} (hl : lv_has ls 1 [(0, .ref (ad 0 0))]) {o : Int32 × sS × sS} (hO : O6_repair S A G  = o) : W p l e (rmk 2) s m args below meth c H locs 0 0 (MQ below (s_Qi D aC ad X G o) args s 0 0 (s_N ad X)) (F0 m 0 ls []) := by
  obtain ⟨hx, hb, hml, hown, hw, hK, hr, hlocks⟩ := id C0
  unfold O6_repair at hO
  refine lv_aload_n hx hb d6_repair_0 rfl (lv_at hl 0 rfl) ?_
  refine sr_get (v := .ref (ad 6 0)) hx hb hw hown hK hB 5 (hX.1 0 (by decide)) cf_0 us6 (by decide) fl_6_43 (rfl) d6_repair_1 ?_
  refine sr_vp C0 hB (m2_wholeCopies hX  ) (hX.1 6 (by decide)) cf_6 ml_6_251 im_2_wholeCopies se_2_wholeCopies in_2 cd_2_wholeCopies hd2_wholeCopies ⟨⟨rfl, rfl⟩, by decide, by decide⟩ ⟨Nat.zero_le _, Nat.zero_le _⟩ hl.1 rfl (Nat.le_of_ble_eq_true rfl) d6_repair_4 ?_
  refine lv_if_ne (tgt := 13) hx hb d6_repair_7 (by decide) (fun c_1 => ?_) (fun c_1 => ?_)
  · refine lv_aload_n hx hb d6_repair_13 rfl (lv_at hl 0 rfl) ?_
    refine sr_get (v := .ref (ad 6 0)) hx hb hw hown hK hB 5 (hX.1 0 (by decide)) cf_0 us6 (by decide) fl_6_43 (rfl) d6_repair_14 ?_
    refine sr_vv C0 hB (m2_makeWhole hX  (by  first | assumption | omega)) (hX.1 6 (by decide)) cf_6 ml_6_265 im_2_makeWhole se_2_makeWhole in_2 cd_2_makeWhole hd2_makeWhole ⟨⟨rfl, rfl⟩, by decide, by decide⟩ ⟨Nat.zero_le _, Nat.zero_le _⟩ hl.1 rfl (Nat.le_of_ble_eq_true rfl) d6_repair_17 (fun H locs hB => ?_)
    exact k6_repair_20 C0 hB hX   (lv_sub hl [0] rfl) (by rw [if_neg c_1] at hO; exact hO)
  · refine lv_bipush (v := (-8)) hx hb d6_repair_10 (by decide) ?_
    exact se_i C0 hB (by rw [if_pos c_1] at hO; exact hO) d6_repair_12
theorem hd6_repair : y6_repair.cls = R6 ∧ y6_repair.cls ≠ "java/lang/invoke/MethodHandle" ∧ y6_repair.cls ≠ "java/lang/invoke/VarHandle" ∧ (parseMethodDescriptor y6_repair.desc).map (fun d => d.parameters.length) = some 0 := ⟨rfl, by decide, by decide, by decide +kernel⟩
theorem m6_repair {l : Launch} {D : va_G} {aC : Nat → ClassId} {ad : Nat → Nat → Nat} {X : Nat → Nat → Prop} {S A : sS} {G : sG} (hX : xC X G)  (hsz : 0 ≤ (S 6 0 1).toInt ∧ (S 6 0 1).toInt ≤ 300) : Met l y6_repair (.code y6_repair b6_repair 1 (some .int) :: wall) (rmk 2) (s_Pc [.ref (ad 0 0)] D aC ad X S A G) (s_Qi D aC ad X G (O6_repair S A G )) 0 0 (s_N ad X) :=
  s_met (by decide) rfl (Nat.le_of_ble_eq_true rfl) (fun p e s m args below meth c C0 hB ls hl => k6_repair_0 C0 hB hX  hsz hl rfl)

def V6_alarms_85 (S A : sS) (G : sG) (z1 : Int32) : Int32 := z1
def V6_alarms_73 (S A : sS) (G : sG) (z1 : Int32) : Int32 := if V6_isAnyLotExpired S A G  = 0 then V6_alarms_85 S A G z1 else V6_alarms_85 S A G (z1 ||| 16)
def V6_alarms_57 (S A : sS) (G : sG) (z1 : Int32) : Int32 := if 2 ≤ V2_wholeCopies S A G  then V6_alarms_73 S A G z1 else V6_alarms_73 S A G (z1 ||| 8)
def V6_alarms_44 (S A : sS) (G : sG) (z1 : Int32) : Int32 := if V6_wanted S A G 0 = (-1) then V6_alarms_57 S A G z1 else V6_alarms_57 S A G (z1 ||| 4)
def V6_alarms_33 (S A : sS) (G : sG) (z1 : Int32) : Int32 := if V6_isAnyLocked S A G  = 0 then V6_alarms_44 S A G z1 else V6_alarms_44 S A G (z1 ||| 2)
def V6_alarms (S A : sS) (G : sG)  : Int32 := if V4_isOpen S A G  = 0 then V6_alarms_33 S A G 0 else if (S 0 0 8) - (S 5 0 3) < 40 then V6_alarms_33 S A G 0 else V6_alarms_33 S A G (0 ||| 1)
set_option maxRecDepth 100000 in
set_option maxHeartbeats 4000000 in
theorem k6_alarms_85 {p : Program} {l : Launch} {e : Env} {s : State} {m : MethodId} {args : Array Value} {below : List Frame} {meth : Method} {c : Code} {D : va_G} {aC : Nat → ClassId} {ad : Nat → Nat → Nat} {X : Nat → Nat → Prop} {S A : sS} {G : sG} (C0 : s_C p s m args meth c b6_alarms 2 R6 (some .int) D aC) (hB : s_B D aC ad X (s_N ad X) S A G s.heap s.heap []) (hX : xC X G) (z1 : Int32) (hlo : ∀ i, i < 64 → 0 ≤ (S 15 i 3).toInt ∧ (S 15 i 3).toInt ≤ 6) {ls : Array Slot} (hl : lv_has ls 2 [(0, .ref (ad 0 0)), (1, .int z1)]) {o : Int32} (hO : V6_alarms_85 S A G z1 = o) : W p l e (rmk 5) s m args below meth c s.heap [] 0 0 (MQ below (s_Qp o) args s 0 0 (fun _ => False)) (F0 m 85 ls []) := by
  obtain ⟨hx, hb, hml, hown, hw, hK, hr, hlocks⟩ := id C0
  unfold V6_alarms_85 at hO
  refine lv_iload_n hx hb d6_alarms_85 rfl (lv_at hl 1 rfl) ?_
  exact se_pi C0 (hO) d6_alarms_86
set_option maxRecDepth 100000 in
set_option maxHeartbeats 4000000 in
theorem k6_alarms_73 {p : Program} {l : Launch} {e : Env} {s : State} {m : MethodId} {args : Array Value} {below : List Frame} {meth : Method} {c : Code} {D : va_G} {aC : Nat → ClassId} {ad : Nat → Nat → Nat} {X : Nat → Nat → Prop} {S A : sS} {G : sG} (C0 : s_C p s m args meth c b6_alarms 2 R6 (some .int) D aC) (hB : s_B D aC ad X (s_N ad X) S A G s.heap s.heap []) (hX : xC X G) (z1 : Int32) (hlo : ∀ i, i < 64 → 0 ≤ (S 15 i 3).toInt ∧ (S 15 i 3).toInt ≤ 6) {ls : Array Slot} (hl : lv_has ls 2 [(0, .ref (ad 0 0)), (1, .int z1)]) {o : Int32} (hO : V6_alarms_73 S A G z1 = o) : W p l e (rmk 5) s m args below meth c s.heap [] 0 0 (MQ below (s_Qp o) args s 0 0 (fun _ => False)) (F0 m 73 ls []) := by
  obtain ⟨hx, hb, hml, hown, hw, hK, hr, hlocks⟩ := id C0
  unfold V6_alarms_73 at hO
  refine lv_aload_n hx hb d6_alarms_73 rfl (lv_at hl 0 rfl) ?_
  refine sr_vp C0 hB (m6_isAnyLotExpired hX  (by  first | assumption | omega)) (hX.1 0 (by decide)) cf_0 ml_6_254 im_6_isAnyLotExpired se_6_isAnyLotExpired in_6 cd_6_isAnyLotExpired hd6_isAnyLotExpired ⟨⟨rfl, rfl⟩, by decide, by decide⟩ ⟨Nat.zero_le _, Nat.zero_le _⟩ hl.1 rfl (Nat.le_of_ble_eq_true rfl) d6_alarms_74 ?_
  refine lv_if_eq (tgt := 85) hx hb d6_alarms_77 (by decide) (fun c_1 => ?_) (fun c_1 => ?_)
  · exact k6_alarms_85 C0 hB hX z1 (by  first | assumption | omega) (lv_sub hl [0, 1] rfl) (by rw [if_pos c_1] at hO; exact hO)
  · refine lv_iload_n hx hb d6_alarms_80 rfl (lv_at hl 1 rfl) ?_
    refine lv_bipush (v := 16) hx hb d6_alarms_81 (by decide) ?_
    refine lv_ior hx hb d6_alarms_83 ?_
    refine lv_istore_n (lv' := [(1, .int (z1 ||| 16)), (0, .ref (ad 0 0))]) hx hb d6_alarms_84 rfl hl (by decide) rfl (fun ls hl => ?_)
    exact k6_alarms_85 C0 hB hX (z1 ||| 16) (by  first | assumption | omega) (lv_sub hl [1, 0] rfl) (by rw [if_neg c_1] at hO; exact hO)
set_option maxRecDepth 100000 in
set_option maxHeartbeats 4000000 in
theorem k6_alarms_57 {p : Program} {l : Launch} {e : Env} {s : State} {m : MethodId} {args : Array Value} {below : List Frame} {meth : Method} {c : Code} {D : va_G} {aC : Nat → ClassId} {ad : Nat → Nat → Nat} {X : Nat → Nat → Prop} {S A : sS} {G : sG} (C0 : s_C p s m args meth c b6_alarms 2 R6 (some .int) D aC) (hB : s_B D aC ad X (s_N ad X) S A G s.heap s.heap []) (hX : xC X G) (z1 : Int32) (hlo : ∀ i, i < 64 → 0 ≤ (S 15 i 3).toInt ∧ (S 15 i 3).toInt ≤ 6) {ls : Array Slot} (hl : lv_has ls 2 [(0, .ref (ad 0 0)), (1, .int z1)]) {o : Int32} (hO : V6_alarms_57 S A G z1 = o) : W p l e (rmk 5) s m args below meth c s.heap [] 0 0 (MQ below (s_Qp o) args s 0 0 (fun _ => False)) (F0 m 57 ls []) := by
  obtain ⟨hx, hb, hml, hown, hw, hK, hr, hlocks⟩ := id C0
  unfold V6_alarms_57 at hO
  refine lv_aload_n hx hb d6_alarms_57 rfl (lv_at hl 0 rfl) ?_
  refine sr_get (v := .ref (ad 6 0)) hx hb hw hown hK hB 5 (hX.1 0 (by decide)) cf_0 us6 (by decide) fl_6_43 (rfl) d6_alarms_58 ?_
  refine sr_vp C0 hB (m2_wholeCopies hX  ) (hX.1 6 (by decide)) cf_6 ml_6_251 im_2_wholeCopies se_2_wholeCopies in_2 cd_2_wholeCopies hd2_wholeCopies ⟨⟨rfl, rfl⟩, by decide, by decide⟩ ⟨Nat.zero_le _, Nat.zero_le _⟩ hl.1 rfl (Nat.le_of_ble_eq_true rfl) d6_alarms_61 ?_
  refine lv_iconst (v := 2) hx hb d6_alarms_64 (by decide) ?_
  refine lv_icmp_ge (tgt := 73) hx hb d6_alarms_65 (by decide) (fun c_1 => ?_) (fun c_1 => ?_)
  · exact k6_alarms_73 C0 hB hX z1 (by (have kc_1 := le_i c_1); (have l2 : (2 : Int32).toInt = 2 := rfl);  first | assumption | omega) (lv_sub hl [0, 1] rfl) (by rw [if_pos c_1] at hO; exact hO)
  · refine lv_iload_n hx hb d6_alarms_68 rfl (lv_at hl 1 rfl) ?_
    refine lv_bipush (v := 8) hx hb d6_alarms_69 (by decide) ?_
    refine lv_ior hx hb d6_alarms_71 ?_
    refine lv_istore_n (lv' := [(1, .int (z1 ||| 8)), (0, .ref (ad 0 0))]) hx hb d6_alarms_72 rfl hl (by decide) rfl (fun ls hl => ?_)
    exact k6_alarms_73 C0 hB hX (z1 ||| 8) (by (have kc_1 := nle_i c_1); (have l2 : (2 : Int32).toInt = 2 := rfl);  first | assumption | omega) (lv_sub hl [1, 0] rfl) (by rw [if_neg c_1] at hO; exact hO)
set_option maxRecDepth 100000 in
set_option maxHeartbeats 4000000 in
theorem k6_alarms_44 {p : Program} {l : Launch} {e : Env} {s : State} {m : MethodId} {args : Array Value} {below : List Frame} {meth : Method} {c : Code} {D : va_G} {aC : Nat → ClassId} {ad : Nat → Nat → Nat} {X : Nat → Nat → Prop} {S A : sS} {G : sG} (C0 : s_C p s m args meth c b6_alarms 2 R6 (some .int) D aC) (hB : s_B D aC ad X (s_N ad X) S A G s.heap s.heap []) (hX : xC X G) (z1 : Int32) (hlo : ∀ i, i < 64 → 0 ≤ (S 15 i 3).toInt ∧ (S 15 i 3).toInt ≤ 6) {ls : Array Slot} (hl : lv_has ls 2 [(0, .ref (ad 0 0)), (1, .int z1)]) {o : Int32} (hO : V6_alarms_44 S A G z1 = o) : W p l e (rmk 5) s m args below meth c s.heap [] 0 0 (MQ below (s_Qp o) args s 0 0 (fun _ => False)) (F0 m 44 ls []) := by
  obtain ⟨hx, hb, hml, hown, hw, hK, hr, hlocks⟩ := id C0
  unfold V6_alarms_44 at hO
  refine lv_aload_n hx hb d6_alarms_44 rfl (lv_at hl 0 rfl) ?_
  refine lv_iconst (v := 0) hx hb d6_alarms_45 (by decide) ?_
  refine sr_vp C0 hB (m6_wanted hX 0 (by  first | assumption | omega)) (hX.1 0 (by decide)) cf_0 ml_6_248 im_6_wanted se_6_wanted in_6 cd_6_wanted hd6_wanted ⟨⟨rfl, rfl⟩, by decide, by decide⟩ ⟨Nat.zero_le _, Nat.zero_le _⟩ hl.1 rfl (Nat.le_of_ble_eq_true rfl) d6_alarms_46 ?_
  refine lv_iconst (v := (-1)) hx hb d6_alarms_49 (by decide) ?_
  refine lv_icmp_eq (tgt := 57) hx hb d6_alarms_50 (by decide) (fun c_1 => ?_) (fun c_1 => ?_)
  · exact k6_alarms_57 C0 hB hX z1 (by (have kc_1 := congrArg Int32.toInt c_1); (have lm1 := ln1); (have l0 : (0 : Int32).toInt = 0 := rfl);  first | assumption | omega) (lv_sub hl [0, 1] rfl) (by rw [if_pos c_1] at hO; exact hO)
  · refine lv_iload_n hx hb d6_alarms_53 rfl (lv_at hl 1 rfl) ?_
    refine lv_iconst (v := 4) hx hb d6_alarms_54 (by decide) ?_
    refine lv_ior hx hb d6_alarms_55 ?_
    refine lv_istore_n (lv' := [(1, .int (z1 ||| 4)), (0, .ref (ad 0 0))]) hx hb d6_alarms_56 rfl hl (by decide) rfl (fun ls hl => ?_)
    exact k6_alarms_57 C0 hB hX (z1 ||| 4) (by  first | assumption | omega) (lv_sub hl [1, 0] rfl) (by rw [if_neg c_1] at hO; exact hO)
set_option maxRecDepth 100000 in
set_option maxHeartbeats 4000000 in
theorem k6_alarms_33 {p : Program} {l : Launch} {e : Env} {s : State} {m : MethodId} {args : Array Value} {below : List Frame} {meth : Method} {c : Code} {D : va_G} {aC : Nat → ClassId} {ad : Nat → Nat → Nat} {X : Nat → Nat → Prop} {S A : sS} {G : sG} (C0 : s_C p s m args meth c b6_alarms 2 R6 (some .int) D aC) (hB : s_B D aC ad X (s_N ad X) S A G s.heap s.heap []) (hX : xC X G) (z1 : Int32) (hlo : ∀ i, i < 64 → 0 ≤ (S 15 i 3).toInt ∧ (S 15 i 3).toInt ≤ 6) {ls : Array Slot} (hl : lv_has ls 2 [(0, .ref (ad 0 0)), (1, .int z1)]) {o : Int32} (hO : V6_alarms_33 S A G z1 = o) : W p l e (rmk 5) s m args below meth c s.heap [] 0 0 (MQ below (s_Qp o) args s 0 0 (fun _ => False)) (F0 m 33 ls []) := by
  obtain ⟨hx, hb, hml, hown, hw, hK, hr, hlocks⟩ := id C0
  unfold V6_alarms_33 at hO
  refine lv_aload_n hx hb d6_alarms_33 rfl (lv_at hl 0 rfl) ?_
  refine sr_vp C0 hB (m6_isAnyLocked hX  ) (hX.1 0 (by decide)) cf_0 ml_6_245 im_6_isAnyLocked se_6_isAnyLocked in_6 cd_6_isAnyLocked hd6_isAnyLocked ⟨⟨rfl, rfl⟩, by decide, by decide⟩ ⟨Nat.zero_le _, Nat.zero_le _⟩ hl.1 rfl (Nat.le_of_ble_eq_true rfl) d6_alarms_34 ?_
  refine lv_if_eq (tgt := 44) hx hb d6_alarms_37 (by decide) (fun c_1 => ?_) (fun c_1 => ?_)
  · exact k6_alarms_44 C0 hB hX z1 (by  first | assumption | omega) (lv_sub hl [0, 1] rfl) (by rw [if_pos c_1] at hO; exact hO)
  · refine lv_iload_n hx hb d6_alarms_40 rfl (lv_at hl 1 rfl) ?_
    refine lv_iconst (v := 2) hx hb d6_alarms_41 (by decide) ?_
    refine lv_ior hx hb d6_alarms_42 ?_
    refine lv_istore_n (lv' := [(1, .int (z1 ||| 2)), (0, .ref (ad 0 0))]) hx hb d6_alarms_43 rfl hl (by decide) rfl (fun ls hl => ?_)
    exact k6_alarms_44 C0 hB hX (z1 ||| 2) (by  first | assumption | omega) (lv_sub hl [1, 0] rfl) (by rw [if_neg c_1] at hO; exact hO)
set_option maxRecDepth 100000 in
set_option maxHeartbeats 4000000 in
theorem k6_alarms_0 {p : Program} {l : Launch} {e : Env} {s : State} {m : MethodId} {args : Array Value} {below : List Frame} {meth : Method} {c : Code} {D : va_G} {aC : Nat → ClassId} {ad : Nat → Nat → Nat} {X : Nat → Nat → Prop} {S A : sS} {G : sG} (C0 : s_C p s m args meth c b6_alarms 2 R6 (some .int) D aC) (hB : s_B D aC ad X (s_N ad X) S A G s.heap s.heap []) (hX : xC X G)  (hlo : ∀ i, i < 64 → 0 ≤ (S 15 i 3).toInt ∧ (S 15 i 3).toInt ≤ 6) {ls : Array Slot} (hl : lv_has ls 2 [(0, .ref (ad 0 0))]) {o : Int32} (hO : V6_alarms S A G  = o) : W p l e (rmk 5) s m args below meth c s.heap [] 0 0 (MQ below (s_Qp o) args s 0 0 (fun _ => False)) (F0 m 0 ls []) := by
  obtain ⟨hx, hb, hml, hown, hw, hK, hr, hlocks⟩ := id C0
  unfold V6_alarms at hO
  refine lv_iconst (v := 0) hx hb d6_alarms_0 (by decide) ?_
  refine lv_istore_n (lv' := [(1, .int 0), (0, .ref (ad 0 0))]) hx hb d6_alarms_1 rfl hl (by decide) rfl (fun ls hl => ?_)
  refine lv_aload_n hx hb d6_alarms_2 rfl (lv_at hl 1 rfl) ?_
  refine sr_get (v := .ref (ad 5 0)) hx hb hw hown hK hB 4 (hX.1 0 (by decide)) cf_0 us6 (by decide) fl_6_36 (rfl) d6_alarms_3 ?_
  refine sr_vp C0 hB (m4_isOpen hX  ) (hX.1 5 (by decide)) cf_5 ml_6_87 im_4_isOpen se_4_isOpen in_4 cd_4_isOpen hd4_isOpen ⟨⟨rfl, rfl⟩, by decide, by decide⟩ ⟨Nat.zero_le _, Nat.zero_le _⟩ hl.1 rfl (Nat.le_of_ble_eq_true rfl) d6_alarms_6 ?_
  refine lv_if_eq (tgt := 33) hx hb d6_alarms_9 (by decide) (fun c_1 => ?_) (fun c_1 => ?_)
  · exact k6_alarms_33 C0 hB hX 0 (by  first | assumption | omega) (lv_sub hl [1, 0] rfl) (by rw [if_pos c_1] at hO; exact hO)
  · refine lv_aload_n hx hb d6_alarms_12 rfl (lv_at hl 1 rfl) ?_
    refine sr_get (v := .int (S 0 0 8)) hx hb hw hown hK hB 8 (hX.1 0 (by decide)) cf_0 us6 (by decide) fl_6_54 (rfl) d6_alarms_13 ?_
    refine lv_aload_n hx hb d6_alarms_16 rfl (lv_at hl 1 rfl) ?_
    refine sr_get (v := .ref (ad 5 0)) hx hb hw hown hK hB 4 (hX.1 0 (by decide)) cf_0 us6 (by decide) fl_6_36 (rfl) d6_alarms_17 ?_
    refine sr_get (v := .int (S 5 0 3)) hx hb hw hown hK hB 3 (hX.1 5 (by decide)) cf_5 us4 (by decide) fl_6_212 (rfl) d6_alarms_20 ?_
    refine lv_isub hx hb d6_alarms_23 ?_
    refine lv_bipush (v := 40) hx hb d6_alarms_24 (by decide) ?_
    refine lv_icmp_lt (tgt := 33) hx hb d6_alarms_26 (by decide) (fun c_2 => ?_) (fun c_2 => ?_)
    · exact k6_alarms_33 C0 hB hX 0 (by (have kc_2 := lt_i c_2); (have l0 : (0 : Int32).toInt = 0 := rfl); (have l3 : (3 : Int32).toInt = 3 := rfl); (have l40 : (40 : Int32).toInt = 40 := rfl); (have l5 : (5 : Int32).toInt = 5 := rfl); (have l8 : (8 : Int32).toInt = 8 := rfl);  first | assumption | omega) (lv_sub hl [1, 0] rfl) (by rw [if_neg c_1, if_pos c_2] at hO; exact hO)
    · refine lv_iload_n hx hb d6_alarms_29 rfl (lv_at hl 0 rfl) ?_
      refine lv_iconst (v := 1) hx hb d6_alarms_30 (by decide) ?_
      refine lv_ior hx hb d6_alarms_31 ?_
      refine lv_istore_n (lv' := [(1, .int (0 ||| 1)), (0, .ref (ad 0 0))]) hx hb d6_alarms_32 rfl hl (by decide) rfl (fun ls hl => ?_)
      exact k6_alarms_33 C0 hB hX (0 ||| 1) (by (have kc_2 := nlt_i c_2); (have l0 : (0 : Int32).toInt = 0 := rfl); (have l3 : (3 : Int32).toInt = 3 := rfl); (have l40 : (40 : Int32).toInt = 40 := rfl); (have l5 : (5 : Int32).toInt = 5 := rfl); (have l8 : (8 : Int32).toInt = 8 := rfl);  first | assumption | omega) (lv_sub hl [1, 0] rfl) (by rw [if_neg c_1, if_neg c_2] at hO; exact hO)
theorem hd6_alarms : y6_alarms.cls = R6 ∧ y6_alarms.cls ≠ "java/lang/invoke/MethodHandle" ∧ y6_alarms.cls ≠ "java/lang/invoke/VarHandle" ∧ (parseMethodDescriptor y6_alarms.desc).map (fun d => d.parameters.length) = some 0 := ⟨rfl, by decide, by decide, by decide +kernel⟩
theorem m6_alarms {l : Launch} {D : va_G} {aC : Nat → ClassId} {ad : Nat → Nat → Nat} {X : Nat → Nat → Prop} {S A : sS} {G : sG} (hX : xC X G)  (hlo : ∀ i, i < 64 → 0 ≤ (S 15 i 3).toInt ∧ (S 15 i 3).toInt ≤ 6) : Met l y6_alarms (.code y6_alarms b6_alarms 2 (some .int) :: wall) (rmk 5) (s_Pc [.ref (ad 0 0)] D aC ad X S A G) (s_Qp (V6_alarms S A G )) 0 0 (fun _ => False) :=
  s_met (by decide) rfl (Nat.le_of_ble_eq_true rfl) (fun p e s m args below meth c C0 hB ls hl => k6_alarms_0 C0 hB hX  hlo hl rfl)
