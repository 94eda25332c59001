def V4_isOpen (S A : sS) (G : sG)  : Int32 := if S 5 0 0 = (-1) then 0 else 1
set_option maxRecDepth 100000 in
set_option maxHeartbeats 4000000 in
theorem k4_isOpen_0 {p : Program} {l : Launch} {e : Env} {s : State} {m : MethodId} {args : Array Value} {below : List Frame} {meth : Method} {c : Code} {D : va_G} {aC : Nat → ClassId} {ad : Nat → Nat → Nat} {X : Nat → Nat → Prop} {S A : sS} {G : sG} (C0 : s_C p s m args meth c b4_isOpen 1 R4 (some .boolean) D aC) (hB : s_B D aC ad X (s_N ad X) S A G s.heap s.heap []) (hX : xC X G)   {ls : Array Slot} (hl : lv_has ls 1 [(0, .ref (ad 5 0))]) {o : Int32} (hO : V4_isOpen S A G  = o) : W p l e (rmk 0) s m args below meth c s.heap [] 0 0 (MQ below (s_Qp o) args s 0 0 (fun _ => False)) (F0 m 0 ls []) := by
  obtain ⟨hx, hb, hml, hown, hw, hK, hr, hlocks⟩ := id C0
  unfold V4_isOpen at hO
  refine lv_aload_n hx hb d4_isOpen_0 rfl (lv_at hl 0 rfl) ?_
  refine sr_get (v := .int (S 5 0 0)) hx hb hw hown hK hB 0 (hX.1 5 (by decide)) cf_5 us4 (by decide) fl_4_9 (rfl) d4_isOpen_1 ?_
  refine lv_iconst (v := (-1)) hx hb d4_isOpen_4 (by decide) ?_
  refine lv_icmp_eq (tgt := 12) hx hb d4_isOpen_5 (by decide) (fun c_1 => ?_) (fun c_1 => ?_)
  · refine lv_iconst (v := 0) hx hb d4_isOpen_12 (by decide) ?_
    exact se_pz C0 (Or.inl rfl) (by rw [if_pos c_1] at hO; exact hO) d4_isOpen_13
  · refine lv_iconst (v := 1) hx hb d4_isOpen_8 (by decide) ?_
    refine lv_goto (tgt := 13) hx hb d4_isOpen_9 (by decide) ?_
    exact se_pz C0 (Or.inr rfl) (by rw [if_neg c_1] at hO; exact hO) d4_isOpen_13
theorem z4_isOpen (S A : sS) (G : sG)  : V4_isOpen S A G  = 0 ∨ V4_isOpen S A G  = 1 := by
  unfold V4_isOpen
  (repeat' split) <;> first | exact Or.inl rfl | exact Or.inr rfl
theorem hd4_isOpen : y4_isOpen.cls = R4 ∧ y4_isOpen.cls ≠ "java/lang/invoke/MethodHandle" ∧ y4_isOpen.cls ≠ "java/lang/invoke/VarHandle" ∧ (parseMethodDescriptor y4_isOpen.desc).map (fun d => d.parameters.length) = some 0 := ⟨rfl, by decide, by decide, by decide +kernel⟩
theorem m4_isOpen {l : Launch} {D : va_G} {aC : Nat → ClassId} {ad : Nat → Nat → Nat} {X : Nat → Nat → Prop} {S A : sS} {G : sG} (hX : xC X G)   : Met l y4_isOpen (.code y4_isOpen b4_isOpen 1 (some .boolean) :: wall) (rmk 0) (s_Pc [.ref (ad 5 0)] D aC ad X S A G) (s_Qp (V4_isOpen S A G )) 0 0 (fun _ => False) :=
  s_met (by decide) rfl (Nat.le_of_ble_eq_true rfl) (fun p e s m args below meth c C0 hB ls hl => k4_isOpen_0 C0 hB hX   hl rfl)

def O4_open (S A : sS) (G : sG) (x1 : Int32) (x2 : Int32) (x3 : Int32) (x4 : Int32) : sS × sS := ((up3 (up3 (up3 (up3 (up3 (up3 S 5 0 0 x1) 5 0 1 x2) 5 0 2 x3) 5 0 3 x4) 5 0 5 0) 5 0 6 0), A)
set_option maxRecDepth 100000 in
set_option maxHeartbeats 4000000 in
theorem k4_open_0 {p : Program} {l : Launch} {e : Env} {s : State} {m : MethodId} {args : Array Value} {below : List Frame} {meth : Method} {c : Code} {D : va_G} {aC : Nat → ClassId} {ad : Nat → Nat → Nat} {X : Nat → Nat → Prop} {S A : sS} {G : sG} {H : Heap} {locs : List Loc} (C0 : s_C p s m args meth c b4_open 5 R4 none D aC) (hB : s_B D aC ad X (s_N ad X) S A G s.heap H locs) (hX : xC X G) (x1 : Int32) (x2 : Int32) (x3 : Int32) (x4 : Int32)  {ls : Array Slot} (hl : lv_has ls 5 [(0, .ref (ad 5 0)), (1, .int x1), (2, .int x2), (3, .int x3), (4, .int x4)]) {o : sS × sS} (hO : O4_open S A G x1 x2 x3 x4 = o) : W p l e (rmk 0) s m args below meth c H locs 0 0 (MQ below (s_Qv D aC ad X G o) args s 0 0 (s_N ad X)) (F0 m 0 ls []) := by
  obtain ⟨hx, hb, hml, hown, hw, hK, hr, hlocks⟩ := id C0
  unfold O4_open at hO
  refine lv_aload_n hx hb d4_open_0 rfl (lv_at hl 0 rfl) ?_
  refine lv_iload_n hx hb d4_open_1 rfl (lv_at hl 1 rfl) ?_
  refine sr_put hx hb hw hown hK hB 0 (hX.1 5 (by decide)) cf_5 us4 tk4 nm4 (by decide) fl_4_9 rfl rfl rfl rfl d4_open_2 (fun H locs hB => ?_)
  refine lv_aload_n hx hb d4_open_5 rfl (lv_at hl 0 rfl) ?_
  refine lv_iload_n hx hb d4_open_6 rfl (lv_at hl 2 rfl) ?_
  refine sr_put hx hb hw hown hK hB 1 (hX.1 5 (by decide)) cf_5 us4 tk4 nm4 (by decide) fl_4_15 rfl rfl rfl rfl d4_open_7 (fun H locs hB => ?_)
  refine lv_aload_n hx hb d4_open_10 rfl (lv_at hl 0 rfl) ?_
  refine lv_iload_n hx hb d4_open_11 rfl (lv_at hl 3 rfl) ?_
  refine sr_put hx hb hw hown hK hB 2 (hX.1 5 (by decide)) cf_5 us4 tk4 nm4 (by decide) fl_4_18 rfl rfl rfl rfl d4_open_12 (fun H locs hB => ?_)
  refine lv_aload_n hx hb d4_open_15 rfl (lv_at hl 0 rfl) ?_
  refine lv_iload hx hb d4_open_16 (lv_at hl 4 rfl) ?_
  refine sr_put hx hb hw hown hK hB 3 (hX.1 5 (by decide)) cf_5 us4 tk4 nm4 (by decide) fl_4_21 rfl rfl rfl rfl d4_open_18 (fun H locs hB => ?_)
  refine lv_aload_n hx hb d4_open_21 rfl (lv_at hl 0 rfl) ?_
  refine lv_iconst (v := 0) hx hb d4_open_22 (by decide) ?_
  refine sr_put hx hb hw hown hK hB 5 (hX.1 5 (by decide)) cf_5 us4 tk4 nm4 (by decide) fl_4_28 rfl rfl rfl rfl d4_open_23 (fun H locs hB => ?_)
  refine lv_aload_n hx hb d4_open_26 rfl (lv_at hl 0 rfl) ?_
  refine lv_iconst (v := 0) hx hb d4_open_27 (by decide) ?_
  refine sr_put hx hb hw hown hK hB 6 (hX.1 5 (by decide)) cf_5 us4 tk4 nm4 (by decide) fl_4_31 rfl rfl rfl rfl d4_open_28 (fun H locs hB => ?_)
  exact se_v C0 hB (hO) d4_open_31
theorem hd4_open : y4_open.cls = R4 ∧ y4_open.cls ≠ "java/lang/invoke/MethodHandle" ∧ y4_open.cls ≠ "java/lang/invoke/VarHandle" ∧ (parseMethodDescriptor y4_open.desc).map (fun d => d.parameters.length) = some 4 := ⟨rfl, by decide, by decide, by decide +kernel⟩
theorem m4_open {l : Launch} {D : va_G} {aC : Nat → ClassId} {ad : Nat → Nat → Nat} {X : Nat → Nat → Prop} {S A : sS} {G : sG} (hX : xC X G) (x1 : Int32) (x2 : Int32) (x3 : Int32) (x4 : Int32)  : Met l y4_open (.code y4_open b4_open 5 none :: wall) (rmk 0) (s_Pc [.ref (ad 5 0), .int x1, .int x2, .int x3, .int x4] D aC ad X S A G) (s_Qv D aC ad X G (O4_open S A G x1 x2 x3 x4)) 0 0 (s_N ad X) :=
  s_met (by decide) rfl (Nat.le_of_ble_eq_true rfl) (fun p e s m args below meth c C0 hB ls hl => k4_open_0 C0 hB hX x1 x2 x3 x4  hl rfl)

def O4_close (S A : sS) (G : sG)  : sS × sS := ((up3 (up3 (up3 S 5 0 0 (-1)) 5 0 1 (-1)) 5 0 2 (-1)), A)
set_option maxRecDepth 100000 in
set_option maxHeartbeats 4000000 in
theorem k4_close_0 {p : Program} {l : Launch} {e : Env} {s : State} {m : MethodId} {args : Array Value} {below : List Frame} {meth : Method} {c : Code} {D : va_G} {aC : Nat → ClassId} {ad : Nat → Nat → Nat} {X : Nat → Nat → Prop} {S A : sS} {G : sG} {H : Heap} {locs : List Loc} (C0 : s_C p s m args meth c b4_close 1 R4 none D aC) (hB : s_B D aC ad X (s_N ad X) S A G s.heap H locs) (hX : xC X G)   {ls : Array Slot} (hl : lv_has ls 1 [(0, .ref (ad 5 0))]) {o : sS × sS} (hO : O4_close S A G  = o) : W p l e (rmk 0) s m args below meth c H locs 0 0 (MQ below (s_Qv D aC ad X G o) args s 0 0 (s_N ad X)) (F0 m 0 ls []) := by
  obtain ⟨hx, hb, hml, hown, hw, hK, hr, hlocks⟩ := id C0
  unfold O4_close at hO
  refine lv_aload_n hx hb d4_close_0 rfl (lv_at hl 0 rfl) ?_
  refine lv_iconst (v := (-1)) hx hb d4_close_1 (by decide) ?_
  refine sr_put hx hb hw hown hK hB 0 (hX.1 5 (by decide)) cf_5 us4 tk4 nm4 (by decide) fl_4_9 rfl rfl rfl rfl d4_close_2 (fun H locs hB => ?_)
  refine lv_aload_n hx hb d4_close_5 rfl (lv_at hl 0 rfl) ?_
  refine lv_iconst (v := (-1)) hx hb d4_close_6 (by decide) ?_
  refine sr_put hx hb hw hown hK hB 1 (hX.1 5 (by decide)) cf_5 us4 tk4 nm4 (by decide) fl_4_15 rfl rfl rfl rfl d4_close_7 (fun H locs hB => ?_)
  refine lv_aload_n hx hb d4_close_10 rfl (lv_at hl 0 rfl) ?_
  refine lv_iconst (v := (-1)) hx hb d4_close_11 (by decide) ?_
  refine sr_put hx hb hw hown hK hB 2 (hX.1 5 (by decide)) cf_5 us4 tk4 nm4 (by decide) fl_4_18 rfl rfl rfl rfl d4_close_12 (fun H locs hB => ?_)
  exact se_v C0 hB (hO) d4_close_15
theorem hd4_close : y4_close.cls = R4 ∧ y4_close.cls ≠ "java/lang/invoke/MethodHandle" ∧ y4_close.cls ≠ "java/lang/invoke/VarHandle" ∧ (parseMethodDescriptor y4_close.desc).map (fun d => d.parameters.length) = some 0 := ⟨rfl, by decide, by decide, by decide +kernel⟩
theorem m4_close {l : Launch} {D : va_G} {aC : Nat → ClassId} {ad : Nat → Nat → Nat} {X : Nat → Nat → Prop} {S A : sS} {G : sG} (hX : xC X G)   : Met l y4_close (.code y4_close b4_close 1 none :: wall) (rmk 0) (s_Pc [.ref (ad 5 0)] D aC ad X S A G) (s_Qv D aC ad X G (O4_close S A G )) 0 0 (s_N ad X) :=
  s_met (by decide) rfl (Nat.le_of_ble_eq_true rfl) (fun p e s m args below meth c C0 hB ls hl => k4_close_0 C0 hB hX   hl rfl)

def V4_takesCount (S A : sS) (G : sG)  : Int32 := if V4_isOpen S A G  = 0 then 0 else if S 5 0 0 = 1 then 0 else if S 5 0 6 = 0 then if S 5 0 4 = 0 then if S 5 0 5 = 0 then 1 else 0 else 1 else 0
set_option maxRecDepth 100000 in
set_option maxHeartbeats 4000000 in
theorem k4_takesCount_0 {p : Program} {l : Launch} {e : Env} {s : State} {m : MethodId} {args : Array Value} {below : List Frame} {meth : Method} {c : Code} {D : va_G} {aC : Nat → ClassId} {ad : Nat → Nat → Nat} {X : Nat → Nat → Prop} {S A : sS} {G : sG} (C0 : s_C p s m args meth c b4_takesCount 1 R4 (some .boolean) D aC) (hB : s_B D aC ad X (s_N ad X) S A G s.heap s.heap []) (hX : xC X G)   {ls : Array Slot} (hl : lv_has ls 1 [(0, .ref (ad 5 0))]) {o : Int32} (hO : V4_takesCount S A G  = o) : W p l e (rmk 1) s m args below meth c s.heap [] 0 0 (MQ below (s_Qp o) args s 0 0 (fun _ => False)) (F0 m 0 ls []) := by
  obtain ⟨hx, hb, hml, hown, hw, hK, hr, hlocks⟩ := id C0
  unfold V4_takesCount at hO
  refine lv_aload_n hx hb d4_takesCount_0 rfl (lv_at hl 0 rfl) ?_
  refine sr_vp C0 hB (m4_isOpen hX  ) (hX.1 5 (by decide)) cf_5 ml_4_34 im_4_isOpen se_4_isOpen in_4 cd_4_isOpen hd4_isOpen ⟨⟨rfl, rfl⟩, by decide, by decide⟩ ⟨Nat.zero_le _, Nat.zero_le _⟩ hl.1 rfl (Nat.le_of_ble_eq_true rfl) d4_takesCount_1 ?_
  refine lv_if_eq (tgt := 40) hx hb d4_takesCount_4 (by decide) (fun c_1 => ?_) (fun c_1 => ?_)
  · refine lv_iconst (v := 0) hx hb d4_takesCount_40 (by decide) ?_
    exact se_pz C0 (Or.inl rfl) (by rw [if_pos c_1] at hO; exact hO) d4_takesCount_41
  · refine lv_aload_n hx hb d4_takesCount_7 rfl (lv_at hl 0 rfl) ?_
    refine sr_get (v := .int (S 5 0 0)) hx hb hw hown hK hB 0 (hX.1 5 (by decide)) cf_5 us4 (by decide) fl_4_9 (rfl) d4_takesCount_8 ?_
    refine lv_iconst (v := 1) hx hb d4_takesCount_11 (by decide) ?_
    refine lv_icmp_eq (tgt := 40) hx hb d4_takesCount_12 (by decide) (fun c_2 => ?_) (fun c_2 => ?_)
    · refine lv_iconst (v := 0) hx hb d4_takesCount_40 (by decide) ?_
      exact se_pz C0 (Or.inl rfl) (by rw [if_neg c_1, if_pos c_2] at hO; exact hO) d4_takesCount_41
    · refine lv_aload_n hx hb d4_takesCount_15 rfl (lv_at hl 0 rfl) ?_
      refine sr_get (v := .int (S 5 0 6)) hx hb hw hown hK hB 6 (hX.1 5 (by decide)) cf_5 us4 (by decide) fl_4_31 (rfl) d4_takesCount_16 ?_
      refine lv_if_ne (tgt := 40) hx hb d4_takesCount_19 (by decide) (fun c_3 => ?_) (fun c_3 => ?_)
      · refine lv_iconst (v := 0) hx hb d4_takesCount_40 (by decide) ?_
        exact se_pz C0 (Or.inl rfl) (by rw [if_neg c_1, if_neg c_2, if_neg c_3] at hO; exact hO) d4_takesCount_41
      · refine lv_aload_n hx hb d4_takesCount_22 rfl (lv_at hl 0 rfl) ?_
        refine sr_get (v := .int (S 5 0 4)) hx hb hw hown hK hB 4 (hX.1 5 (by decide)) cf_5 us4 (by decide) fl_4_24 (rfl) d4_takesCount_23 ?_
        refine lv_if_ne (tgt := 36) hx hb d4_takesCount_26 (by decide) (fun c_4 => ?_) (fun c_4 => ?_)
        · refine lv_iconst (v := 1) hx hb d4_takesCount_36 (by decide) ?_
          refine lv_goto (tgt := 41) hx hb d4_takesCount_37 (by decide) ?_
          exact se_pz C0 (Or.inr rfl) (by rw [if_neg c_1, if_neg c_2, if_pos c_3, if_neg c_4] at hO; exact hO) d4_takesCount_41
        · refine lv_aload_n hx hb d4_takesCount_29 rfl (lv_at hl 0 rfl) ?_
          refine sr_get (v := .int (S 5 0 5)) hx hb hw hown hK hB 5 (hX.1 5 (by decide)) cf_5 us4 (by decide) fl_4_28 (rfl) d4_takesCount_30 ?_
          refine lv_if_ne (tgt := 40) hx hb d4_takesCount_33 (by decide) (fun c_5 => ?_) (fun c_5 => ?_)
          · refine lv_iconst (v := 0) hx hb d4_takesCount_40 (by decide) ?_
            exact se_pz C0 (Or.inl rfl) (by rw [if_neg c_1, if_neg c_2, if_pos c_3, if_pos c_4, if_neg c_5] at hO; exact hO) d4_takesCount_41
          · refine lv_iconst (v := 1) hx hb d4_takesCount_36 (by decide) ?_
            refine lv_goto (tgt := 41) hx hb d4_takesCount_37 (by decide) ?_
            exact se_pz C0 (Or.inr rfl) (by rw [if_neg c_1, if_neg c_2, if_pos c_3, if_pos c_4, if_pos c_5] at hO; exact hO) d4_takesCount_41
theorem z4_takesCount (S A : sS) (G : sG)  : V4_takesCount S A G  = 0 ∨ V4_takesCount S A G  = 1 := by
  unfold V4_takesCount
  (repeat' split) <;> first | exact Or.inl rfl | exact Or.inr rfl | apply z4_isOpen
theorem hd4_takesCount : y4_takesCount.cls = R4 ∧ y4_takesCount.cls ≠ "java/lang/invoke/MethodHandle" ∧ y4_takesCount.cls ≠ "java/lang/invoke/VarHandle" ∧ (parseMethodDescriptor y4_takesCount.desc).map (fun d => d.parameters.length) = some 0 := ⟨rfl, by decide, by decide, by decide +kernel⟩
theorem m4_takesCount {l : Launch} {D : va_G} {aC : Nat → ClassId} {ad : Nat → Nat → Nat} {X : Nat → Nat → Prop} {S A : sS} {G : sG} (hX : xC X G)   : Met l y4_takesCount (.code y4_takesCount b4_takesCount 1 (some .boolean) :: wall) (rmk 1) (s_Pc [.ref (ad 5 0)] D aC ad X S A G) (s_Qp (V4_takesCount S A G )) 0 0 (fun _ => False) :=
  s_met (by decide) rfl (Nat.le_of_ble_eq_true rfl) (fun p e s m args below meth c C0 hB ls hl => k4_takesCount_0 C0 hB hX   hl rfl)

def V4_takesAmount (S A : sS) (G : sG)  : Int32 := if V4_isOpen S A G  = 0 then 0 else if S 5 0 0 = 2 then 0 else if S 5 0 6 = 0 then if S 5 0 4 = 0 then 1 else 0 else 0
set_option maxRecDepth 100000 in
set_option maxHeartbeats 4000000 in
theorem k4_takesAmount_0 {p : Program} {l : Launch} {e : Env} {s : State} {m : MethodId} {args : Array Value} {below : List Frame} {meth : Method} {c : Code} {D : va_G} {aC : Nat → ClassId} {ad : Nat → Nat → Nat} {X : Nat → Nat → Prop} {S A : sS} {G : sG} (C0 : s_C p s m args meth c b4_takesAmount 1 R4 (some .boolean) D aC) (hB : s_B D aC ad X (s_N ad X) S A G s.heap s.heap []) (hX : xC X G)   {ls : Array Slot} (hl : lv_has ls 1 [(0, .ref (ad 5 0))]) {o : Int32} (hO : V4_takesAmount S A G  = o) : W p l e (rmk 1) s m args below meth c s.heap [] 0 0 (MQ below (s_Qp o) args s 0 0 (fun _ => False)) (F0 m 0 ls []) := by
  obtain ⟨hx, hb, hml, hown, hw, hK, hr, hlocks⟩ := id C0
  unfold V4_takesAmount at hO
  refine lv_aload_n hx hb d4_takesAmount_0 rfl (lv_at hl 0 rfl) ?_
  refine sr_vp C0 hB (m4_isOpen hX  ) (hX.1 5 (by decide)) cf_5 ml_4_34 im_4_isOpen se_4_isOpen in_4 cd_4_isOpen hd4_isOpen ⟨⟨rfl, rfl⟩, by decide, by decide⟩ ⟨Nat.zero_le _, Nat.zero_le _⟩ hl.1 rfl (Nat.le_of_ble_eq_true rfl) d4_takesAmount_1 ?_
  refine lv_if_eq (tgt := 33) hx hb d4_takesAmount_4 (by decide) (fun c_1 => ?_) (fun c_1 => ?_)
  · refine lv_iconst (v := 0) hx hb d4_takesAmount_33 (by decide) ?_
    exact se_pz C0 (Or.inl rfl) (by rw [if_pos c_1] at hO; exact hO) d4_takesAmount_34
  · refine lv_aload_n hx hb d4_takesAmount_7 rfl (lv_at hl 0 rfl) ?_
    refine sr_get (v := .int (S 5 0 0)) hx hb hw hown hK hB 0 (hX.1 5 (by decide)) cf_5 us4 (by decide) fl_4_9 (rfl) d4_takesAmount_8 ?_
    refine lv_iconst (v := 2) hx hb d4_takesAmount_11 (by decide) ?_
    refine lv_icmp_eq (tgt := 33) hx hb d4_takesAmount_12 (by decide) (fun c_2 => ?_) (fun c_2 => ?_)
    · refine lv_iconst (v := 0) hx hb d4_takesAmount_33 (by decide) ?_
      exact se_pz C0 (Or.inl rfl) (by rw [if_neg c_1, if_pos c_2] at hO; exact hO) d4_takesAmount_34
    · refine lv_aload_n hx hb d4_takesAmount_15 rfl (lv_at hl 0 rfl) ?_
      refine sr_get (v := .int (S 5 0 6)) hx hb hw hown hK hB 6 (hX.1 5 (by decide)) cf_5 us4 (by decide) fl_4_31 (rfl) d4_takesAmount_16 ?_
      refine lv_if_ne (tgt := 33) hx hb d4_takesAmount_19 (by decide) (fun c_3 => ?_) (fun c_3 => ?_)
      · refine lv_iconst (v := 0) hx hb d4_takesAmount_33 (by decide) ?_
        exact se_pz C0 (Or.inl rfl) (by rw [if_neg c_1, if_neg c_2, if_neg c_3] at hO; exact hO) d4_takesAmount_34
      · refine lv_aload_n hx hb d4_takesAmount_22 rfl (lv_at hl 0 rfl) ?_
        refine sr_get (v := .int (S 5 0 4)) hx hb hw hown hK hB 4 (hX.1 5 (by decide)) cf_5 us4 (by decide) fl_4_24 (rfl) d4_takesAmount_23 ?_
        refine lv_if_ne (tgt := 33) hx hb d4_takesAmount_26 (by decide) (fun c_4 => ?_) (fun c_4 => ?_)
        · refine lv_iconst (v := 0) hx hb d4_takesAmount_33 (by decide) ?_
          exact se_pz C0 (Or.inl rfl) (by rw [if_neg c_1, if_neg c_2, if_pos c_3, if_neg c_4] at hO; exact hO) d4_takesAmount_34
        · refine lv_iconst (v := 1) hx hb d4_takesAmount_29 (by decide) ?_
          refine lv_goto (tgt := 34) hx hb d4_takesAmount_30 (by decide) ?_
          exact se_pz C0 (Or.inr rfl) (by rw [if_neg c_1, if_neg c_2, if_pos c_3, if_pos c_4] at hO; exact hO) d4_takesAmount_34
theorem z4_takesAmount (S A : sS) (G : sG)  : V4_takesAmount S A G  = 0 ∨ V4_takesAmount S A G  = 1 := by
  unfold V4_takesAmount
  (repeat' split) <;> first | exact Or.inl rfl | exact Or.inr rfl | apply z4_isOpen
theorem hd4_takesAmount : y4_takesAmount.cls = R4 ∧ y4_takesAmount.cls ≠ "java/lang/invoke/MethodHandle" ∧ y4_takesAmount.cls ≠ "java/lang/invoke/VarHandle" ∧ (parseMethodDescriptor y4_takesAmount.desc).map (fun d => d.parameters.length) = some 0 := ⟨rfl, by decide, by decide, by decide +kernel⟩
theorem m4_takesAmount {l : Launch} {D : va_G} {aC : Nat → ClassId} {ad : Nat → Nat → Nat} {X : Nat → Nat → Prop} {S A : sS} {G : sG} (hX : xC X G)   : Met l y4_takesAmount (.code y4_takesAmount b4_takesAmount 1 (some .boolean) :: wall) (rmk 1) (s_Pc [.ref (ad 5 0)] D aC ad X S A G) (s_Qp (V4_takesAmount S A G )) 0 0 (fun _ => False) :=
  s_met (by decide) rfl (Nat.le_of_ble_eq_true rfl) (fun p e s m args below meth c C0 hB ls hl => k4_takesAmount_0 C0 hB hX   hl rfl)

def V5_isLocked (S A : sS) (G : sG) (u : Nat) (x1 : Int32) : Int32 := if S 12 u 3 ≤ x1 then 0 else 1
set_option maxRecDepth 100000 in
set_option maxHeartbeats 4000000 in
theorem k5_isLocked_0 {p : Program} {l : Launch} {e : Env} {s : State} {m : MethodId} {args : Array Value} {below : List Frame} {meth : Method} {c : Code} {D : va_G} {aC : Nat → ClassId} {ad : Nat → Nat → Nat} {X : Nat → Nat → Prop} {S A : sS} {G : sG} (C0 : s_C p s m args meth c b5_isLocked 2 R5 (some .boolean) D aC) (hB : s_B D aC ad X (s_N ad X) S A G s.heap s.heap []) (hX : xC X G) (u : Nat) (x1 : Int32) (hu : X 12 u) {ls : Array Slot} (hl : lv_has ls 2 [(0, .ref (ad 12 u)), (1, .int x1)]) {o : Int32} (hO : V5_isLocked S A G u x1 = o) : W p l e (rmk 0) s m args below meth c s.heap [] 0 0 (MQ below (s_Qp o) args s 0 0 (fun _ => False)) (F0 m 0 ls []) := by
  obtain ⟨hx, hb, hml, hown, hw, hK, hr, hlocks⟩ := id C0
  unfold V5_isLocked at hO
  refine lv_iload_n hx hb d5_isLocked_0 rfl (lv_at hl 1 rfl) ?_
  refine lv_aload_n hx hb d5_isLocked_1 rfl (lv_at hl 0 rfl) ?_
  refine sr_get (v := .int (S 12 u 3)) hx hb hw hown hK hB 3 hu cf_12 us5 (by decide) fl_5_13 (rfl) d5_isLocked_2 ?_
  refine lv_icmp_ge (tgt := 12) hx hb d5_isLocked_5 (by decide) (fun c_1 => ?_) (fun c_1 => ?_)
  · refine lv_iconst (v := 0) hx hb d5_isLocked_12 (by decide) ?_
    exact se_pz C0 (Or.inl rfl) (by rw [if_pos c_1] at hO; exact hO) d5_isLocked_13
  · refine lv_iconst (v := 1) hx hb d5_isLocked_8 (by decide) ?_
    refine lv_goto (tgt := 13) hx hb d5_isLocked_9 (by decide) ?_
    exact se_pz C0 (Or.inr rfl) (by rw [if_neg c_1] at hO; exact hO) d5_isLocked_13
theorem z5_isLocked (S A : sS) (G : sG) (u : Nat) (x1 : Int32) : V5_isLocked S A G u x1 = 0 ∨ V5_isLocked S A G u x1 = 1 := by
  unfold V5_isLocked
  (repeat' split) <;> first | exact Or.inl rfl | exact Or.inr rfl
theorem hd5_isLocked : y5_isLocked.cls = R5 ∧ y5_isLocked.cls ≠ "java/lang/invoke/MethodHandle" ∧ y5_isLocked.cls ≠ "java/lang/invoke/VarHandle" ∧ (parseMethodDescriptor y5_isLocked.desc).map (fun d => d.parameters.length) = some 1 := ⟨rfl, by decide, by decide, by decide +kernel⟩
theorem m5_isLocked {l : Launch} {D : va_G} {aC : Nat → ClassId} {ad : Nat → Nat → Nat} {X : Nat → Nat → Prop} {S A : sS} {G : sG} (hX : xC X G) (u : Nat) (x1 : Int32) (hu : X 12 u) : Met l y5_isLocked (.code y5_isLocked b5_isLocked 2 (some .boolean) :: wall) (rmk 0) (s_Pc [.ref (ad 12 u), .int x1] D aC ad X S A G) (s_Qp (V5_isLocked S A G u x1)) 0 0 (fun _ => False) :=
  s_met (by decide) rfl (Nat.le_of_ble_eq_true rfl) (fun p e s m args below meth c C0 hB ls hl => k5_isLocked_0 C0 hB hX u x1 hu hl rfl)

def V3_isOpen (S A : sS) (G : sG) (q : Nat) (x1 : Int32) : Int32 := if S 14 q 2 ≤ x1 then 0 else if S 14 q 3 ≤ 0 then 0 else if S 14 q 4 = 0 then 1 else 0
set_option maxRecDepth 100000 in
set_option maxHeartbeats 4000000 in
theorem k3_isOpen_0 {p : Program} {l : Launch} {e : Env} {s : State} {m : MethodId} {args : Array Value} {below : List Frame} {meth : Method} {c : Code} {D : va_G} {aC : Nat → ClassId} {ad : Nat → Nat → Nat} {X : Nat → Nat → Prop} {S A : sS} {G : sG} (C0 : s_C p s m args meth c b3_isOpen 2 R3 (some .boolean) D aC) (hB : s_B D aC ad X (s_N ad X) S A G s.heap s.heap []) (hX : xC X G) (q : Nat) (x1 : Int32) (hq : X 14 q) {ls : Array Slot} (hl : lv_has ls 2 [(0, .ref (ad 14 q)), (1, .int x1)]) {o : Int32} (hO : V3_isOpen S A G q x1 = o) : W p l e (rmk 0) s m args below meth c s.heap [] 0 0 (MQ below (s_Qp o) args s 0 0 (fun _ => False)) (F0 m 0 ls []) := by
  obtain ⟨hx, hb, hml, hown, hw, hK, hr, hlocks⟩ := id C0
  unfold V3_isOpen at hO
  refine lv_iload_n hx hb d3_isOpen_0 rfl (lv_at hl 1 rfl) ?_
  refine lv_aload_n hx hb d3_isOpen_1 rfl (lv_at hl 0 rfl) ?_
  refine sr_get (v := .int (S 14 q 2)) hx hb hw hown hK hB 2 hq cf_14 us3 (by decide) fl_3_29 (rfl) d3_isOpen_2 ?_
  refine lv_icmp_ge (tgt := 26) hx hb d3_isOpen_5 (by decide) (fun c_1 => ?_) (fun c_1 => ?_)
  · refine lv_iconst (v := 0) hx hb d3_isOpen_26 (by decide) ?_
    exact se_pz C0 (Or.inl rfl) (by rw [if_pos c_1] at hO; exact hO) d3_isOpen_27
  · refine lv_aload_n hx hb d3_isOpen_8 rfl (lv_at hl 0 rfl) ?_
    refine sr_get (v := .int (S 14 q 3)) hx hb hw hown hK hB 3 hq cf_14 us3 (by decide) fl_3_23 (rfl) d3_isOpen_9 ?_
    refine lv_if_le (tgt := 26) hx hb d3_isOpen_12 (by decide) (fun c_2 => ?_) (fun c_2 => ?_)
    · refine lv_iconst (v := 0) hx hb d3_isOpen_26 (by decide) ?_
      exact se_pz C0 (Or.inl rfl) (by rw [if_neg c_1, if_pos c_2] at hO; exact hO) d3_isOpen_27
    · refine lv_aload_n hx hb d3_isOpen_15 rfl (lv_at hl 0 rfl) ?_
      refine sr_get (v := .int (S 14 q 4)) hx hb hw hown hK hB 4 hq cf_14 us3 (by decide) fl_3_7 (rfl) d3_isOpen_16 ?_
      refine lv_if_ne (tgt := 26) hx hb d3_isOpen_19 (by decide) (fun c_3 => ?_) (fun c_3 => ?_)
      · refine lv_iconst (v := 0) hx hb d3_isOpen_26 (by decide) ?_
        exact se_pz C0 (Or.inl rfl) (by rw [if_neg c_1, if_neg c_2, if_neg c_3] at hO; exact hO) d3_isOpen_27
      · refine lv_iconst (v := 1) hx hb d3_isOpen_22 (by decide) ?_
        refine lv_goto (tgt := 27) hx hb d3_isOpen_23 (by decide) ?_
        exact se_pz C0 (Or.inr rfl) (by rw [if_neg c_1, if_neg c_2, if_pos c_3] at hO; exact hO) d3_isOpen_27
theorem z3_isOpen (S A : sS) (G : sG) (q : Nat) (x1 : Int32) : V3_isOpen S A G q x1 = 0 ∨ V3_isOpen S A G q x1 = 1 := by
  unfold V3_isOpen
  (repeat' split) <;> first | exact Or.inl rfl | exact Or.inr rfl
theorem hd3_isOpen : y3_isOpen.cls = R3 ∧ y3_isOpen.cls ≠ "java/lang/invoke/MethodHandle" ∧ y3_isOpen.cls ≠ "java/lang/invoke/VarHandle" ∧ (parseMethodDescriptor y3_isOpen.desc).map (fun d => d.parameters.length) = some 1 := ⟨rfl, by decide, by decide, by decide +kernel⟩
theorem m3_isOpen {l : Launch} {D : va_G} {aC : Nat → ClassId} {ad : Nat → Nat → Nat} {X : Nat → Nat → Prop} {S A : sS} {G : sG} (hX : xC X G) (q : Nat) (x1 : Int32) (hq : X 14 q) : Met l y3_isOpen (.code y3_isOpen b3_isOpen 2 (some .boolean) :: wall) (rmk 0) (s_Pc [.ref (ad 14 q), .int x1] D aC ad X S A G) (s_Qp (V3_isOpen S A G q x1)) 0 0 (fun _ => False) :=
  s_met (by decide) rfl (Nat.le_of_ble_eq_true rfl) (fun p e s m args below meth c C0 hB ls hl => k3_isOpen_0 C0 hB hX q x1 hq hl rfl)

def V3_mayTake (S A : sS) (G : sG) (q : Nat) (x1 : Int32) : Int32 := if V3_isOpen S A G q x1 = 0 then 0 else if S 14 q 5 = 0 then 1 else if x1 - (S 14 q 6) < S 14 q 1 then 0 else 1
set_option maxRecDepth 100000 in
set_option maxHeartbeats 4000000 in
theorem k3_mayTake_0 {p : Program} {l : Launch} {e : Env} {s : State} {m : MethodId} {args : Array Value} {below : List Frame} {meth : Method} {c : Code} {D : va_G} {aC : Nat → ClassId} {ad : Nat → Nat → Nat} {X : Nat → Nat → Prop} {S A : sS} {G : sG} (C0 : s_C p s m args meth c b3_mayTake 2 R3 (some .boolean) D aC) (hB : s_B D aC ad X (s_N ad X) S A G s.heap s.heap []) (hX : xC X G) (q : Nat) (x1 : Int32) (hq : X 14 q) {ls : Array Slot} (hl : lv_has ls 2 [(0, .ref (ad 14 q)), (1, .int x1)]) {o : Int32} (hO : V3_mayTake S A G q x1 = o) : W p l e (rmk 1) s m args below meth c s.heap [] 0 0 (MQ below (s_Qp o) args s 0 0 (fun _ => False)) (F0 m 0 ls []) := by
  obtain ⟨hx, hb, hml, hown, hw, hK, hr, hlocks⟩ := id C0
  unfold V3_mayTake at hO
  refine lv_aload_n hx hb d3_mayTake_0 rfl (lv_at hl 0 rfl) ?_
  refine lv_iload_n hx hb d3_mayTake_1 rfl (lv_at hl 1 rfl) ?_
  refine sr_vp C0 hB (m3_isOpen hX q x1 (by  first | assumption | omega)) hq cf_14 ml_3_32 im_3_isOpen se_3_isOpen in_3 cd_3_isOpen hd3_isOpen ⟨⟨rfl, rfl⟩, by decide, by decide⟩ ⟨Nat.zero_le _, Nat.zero_le _⟩ hl.1 rfl (Nat.le_of_ble_eq_true rfl) d3_mayTake_2 ?_
  refine lv_if_eq (tgt := 32) hx hb d3_mayTake_5 (by decide) (fun c_1 => ?_) (fun c_1 => ?_)
  · refine lv_iconst (v := 0) hx hb d3_mayTake_32 (by decide) ?_
    exact se_pz C0 (Or.inl rfl) (by rw [if_pos c_1] at hO; exact hO) d3_mayTake_33
  · refine lv_aload_n hx hb d3_mayTake_8 rfl (lv_at hl 0 rfl) ?_
    refine sr_get (v := .int (S 14 q 5)) hx hb hw hown hK hB 5 hq cf_14 us3 (by decide) fl_3_13 (rfl) d3_mayTake_9 ?_
    refine lv_if_eq (tgt := 28) hx hb d3_mayTake_12 (by decide) (fun c_2 => ?_) (fun c_2 => ?_)
    · refine lv_iconst (v := 1) hx hb d3_mayTake_28 (by decide) ?_
      refine lv_goto (tgt := 33) hx hb d3_mayTake_29 (by decide) ?_
      exact se_pz C0 (Or.inr rfl) (by rw [if_neg c_1, if_pos c_2] at hO; exact hO) d3_mayTake_33
    · refine lv_iload_n hx hb d3_mayTake_15 rfl (lv_at hl 1 rfl) ?_
      refine lv_aload_n hx hb d3_mayTake_16 rfl (lv_at hl 0 rfl) ?_
      refine sr_get (v := .int (S 14 q 6)) hx hb hw hown hK hB 6 hq cf_14 us3 (by decide) fl_3_16 (rfl) d3_mayTake_17 ?_
      refine lv_isub hx hb d3_mayTake_20 ?_
      refine lv_aload_n hx hb d3_mayTake_21 rfl (lv_at hl 0 rfl) ?_
      refine sr_get (v := .int (S 14 q 1)) hx hb hw hown hK hB 1 hq cf_14 us3 (by decide) fl_3_26 (rfl) d3_mayTake_22 ?_
      refine lv_icmp_lt (tgt := 32) hx hb d3_mayTake_25 (by decide) (fun c_3 => ?_) (fun c_3 => ?_)
      · refine lv_iconst (v := 0) hx hb d3_mayTake_32 (by decide) ?_
        exact se_pz C0 (Or.inl rfl) (by rw [if_neg c_1, if_neg c_2, if_pos c_3] at hO; exact hO) d3_mayTake_33
      · refine lv_iconst (v := 1) hx hb d3_mayTake_28 (by decide) ?_
        refine lv_goto (tgt := 33) hx hb d3_mayTake_29 (by decide) ?_
        exact se_pz C0 (Or.inr rfl) (by rw [if_neg c_1, if_neg c_2, if_neg c_3] at hO; exact hO) d3_mayTake_33
theorem z3_mayTake (S A : sS) (G : sG) (q : Nat) (x1 : Int32) : V3_mayTake S A G q x1 = 0 ∨ V3_mayTake S A G q x1 = 1 := by
  unfold V3_mayTake
  (repeat' split) <;> first | exact Or.inl rfl | exact Or.inr rfl | apply z3_isOpen
theorem hd3_mayTake : y3_mayTake.cls = R3 ∧ y3_mayTake.cls ≠ "java/lang/invoke/MethodHandle" ∧ y3_mayTake.cls ≠ "java/lang/invoke/VarHandle" ∧ (parseMethodDescriptor y3_mayTake.desc).map (fun d => d.parameters.length) = some 1 := ⟨rfl, by decide, by decide, by decide +kernel⟩
theorem m3_mayTake {l : Launch} {D : va_G} {aC : Nat → ClassId} {ad : Nat → Nat → Nat} {X : Nat → Nat → Prop} {S A : sS} {G : sG} (hX : xC X G) (q : Nat) (x1 : Int32) (hq : X 14 q) : Met l y3_mayTake (.code y3_mayTake b3_mayTake 2 (some .boolean) :: wall) (rmk 1) (s_Pc [.ref (ad 14 q), .int x1] D aC ad X S A G) (s_Qp (V3_mayTake S A G q x1)) 0 0 (fun _ => False) :=
  s_met (by decide) rfl (Nat.le_of_ble_eq_true rfl) (fun p e s m args below meth c C0 hB ls hl => k3_mayTake_0 C0 hB hX q x1 hq hl rfl)

def O3_take (S A : sS) (G : sG) (q : Nat) (x1 : Int32) (x2 : Int32) : sS × sS := if x1 ≤ 0 then ((up3 S 14 q 3 ((S 14 q 3) - x1)), A) else ((up3 (up3 (up3 S 14 q 3 ((S 14 q 3) - x1)) 14 q 5 1) 14 q 6 x2), A)
set_option maxRecDepth 100000 in
set_option maxHeartbeats 4000000 in
theorem k3_take_0 {p : Program} {l : Launch} {e : Env} {s : State} {m : MethodId} {args : Array Value} {below : List Frame} {meth : Method} {c : Code} {D : va_G} {aC : Nat → ClassId} {ad : Nat → Nat → Nat} {X : Nat → Nat → Prop} {S A : sS} {G : sG} {H : Heap} {locs : List Loc} (C0 : s_C p s m args meth c b3_take 3 R3 none D aC) (hB : s_B D aC ad X (s_N ad X) S A G s.heap H locs) (hX : xC X G) (q : Nat) (x1 : Int32) (x2 : Int32) (hq : X 14 q) {ls : Array Slot} (hl : lv_has ls 3 [(0, .ref (ad 14 q)), (1, .int x1), (2, .int x2)]) {o : sS × sS} (hO : O3_take S A G q x1 x2 = o) : W p l e (rmk 0) s m args below meth c H locs 0 0 (MQ below (s_Qv D aC ad X G o) args s 0 0 (s_N ad X)) (F0 m 0 ls []) := by
  obtain ⟨hx, hb, hml, hown, hw, hK, hr, hlocks⟩ := id C0
  unfold O3_take at hO
  refine lv_aload_n hx hb d3_take_0 rfl (lv_at hl 0 rfl) ?_
  refine lv_dup hx hb d3_take_1 rfl ?_
  refine sr_get (v := .int (S 14 q 3)) hx hb hw hown hK hB 3 hq cf_14 us3 (by decide) fl_3_23 (rfl) d3_take_2 ?_
  refine lv_iload_n hx hb d3_take_5 rfl (lv_at hl 1 rfl) ?_
  refine lv_isub hx hb d3_take_6 ?_
  refine sr_put hx hb hw hown hK hB 3 hq cf_14 us3 tk3 nm3 (by decide) fl_3_23 rfl rfl rfl rfl d3_take_7 (fun H locs hB => ?_)
  refine lv_iload_n hx hb d3_take_10 rfl (lv_at hl 1 rfl) ?_
  refine lv_if_le (tgt := 24) hx hb d3_take_11 (by decide) (fun c_1 => ?_) (fun c_1 => ?_)
  · exact se_v C0 hB (by rw [if_pos c_1] at hO; exact hO) d3_take_24
  · refine lv_aload_n hx hb d3_take_14 rfl (lv_at hl 0 rfl) ?_
    refine lv_iconst (v := 1) hx hb d3_take_15 (by decide) ?_
    refine sr_put hx hb hw hown hK hB 5 hq cf_14 us3 tk3 nm3 (by decide) fl_3_13 rfl rfl rfl rfl d3_take_16 (fun H locs hB => ?_)
    refine lv_aload_n hx hb d3_take_19 rfl (lv_at hl 0 rfl) ?_
    refine lv_iload_n hx hb d3_take_20 rfl (lv_at hl 2 rfl) ?_
    refine sr_put hx hb hw hown hK hB 6 hq cf_14 us3 tk3 nm3 (by decide) fl_3_16 rfl rfl rfl rfl d3_take_21 (fun H locs hB => ?_)
    exact se_v C0 hB (by rw [if_neg c_1] at hO; exact hO) d3_take_24
theorem hd3_take : y3_take.cls = R3 ∧ y3_take.cls ≠ "java/lang/invoke/MethodHandle" ∧ y3_take.cls ≠ "java/lang/invoke/VarHandle" ∧ (parseMethodDescriptor y3_take.desc).map (fun d => d.parameters.length) = some 2 := ⟨rfl, by decide, by decide, by decide +kernel⟩
theorem m3_take {l : Launch} {D : va_G} {aC : Nat → ClassId} {ad : Nat → Nat → Nat} {X : Nat → Nat → Prop} {S A : sS} {G : sG} (hX : xC X G) (q : Nat) (x1 : Int32) (x2 : Int32) (hq : X 14 q) : Met l y3_take (.code y3_take b3_take 3 none :: wall) (rmk 0) (s_Pc [.ref (ad 14 q), .int x1, .int x2] D aC ad X S A G) (s_Qv D aC ad X G (O3_take S A G q x1 x2)) 0 0 (s_N ad X) :=
  s_met (by decide) rfl (Nat.le_of_ble_eq_true rfl) (fun p e s m args below meth c C0 hB ls hl => k3_take_0 C0 hB hX q x1 x2 hq hl rfl)

def V0_mayHold (S A : sS) (G : sG) (b : Nat) (x1 : Int32) : Int32 := if S 15 b 2 = (-1) then 1 else if S 15 b 2 = x1 then 1 else 0
set_option maxRecDepth 100000 in
set_option maxHeartbeats 4000000 in
theorem k0_mayHold_0 {p : Program} {l : Launch} {e : Env} {s : State} {m : MethodId} {args : Array Value} {below : List Frame} {meth : Method} {c : Code} {D : va_G} {aC : Nat → ClassId} {ad : Nat → Nat → Nat} {X : Nat → Nat → Prop} {S A : sS} {G : sG} (C0 : s_C p s m args meth c b0_mayHold 2 R0 (some .boolean) D aC) (hB : s_B D aC ad X (s_N ad X) S A G s.heap s.heap []) (hX : xC X G) (b : Nat) (x1 : Int32) (hbn : b < 64) {ls : Array Slot} (hl : lv_has ls 2 [(0, .ref (ad 15 b)), (1, .int x1)]) {o : Int32} (hO : V0_mayHold S A G b x1 = o) : W p l e (rmk 0) s m args below meth c s.heap [] 0 0 (MQ below (s_Qp o) args s 0 0 (fun _ => False)) (F0 m 0 ls []) := by
  obtain ⟨hx, hb, hml, hown, hw, hK, hr, hlocks⟩ := id C0
  unfold V0_mayHold at hO
  refine lv_aload_n hx hb d0_mayHold_0 rfl (lv_at hl 0 rfl) ?_
  refine sr_get (v := .int (S 15 b 2)) hx hb hw hown hK hB 2 (hX.2.2.1 b hbn).1 cf_15 us0 (by decide) fl_0_18 (rfl) d0_mayHold_1 ?_
  refine lv_iconst (v := (-1)) hx hb d0_mayHold_4 (by decide) ?_
  refine lv_icmp_eq (tgt := 16) hx hb d0_mayHold_5 (by decide) (fun c_1 => ?_) (fun c_1 => ?_)
  · refine lv_iconst (v := 1) hx hb d0_mayHold_16 (by decide) ?_
    refine lv_goto (tgt := 21) hx hb d0_mayHold_17 (by decide) ?_
    exact se_pz C0 (Or.inr rfl) (by rw [if_pos c_1] at hO; exact hO) d0_mayHold_21
  · refine lv_aload_n hx hb d0_mayHold_8 rfl (lv_at hl 0 rfl) ?_
    refine sr_get (v := .int (S 15 b 2)) hx hb hw hown hK hB 2 (hX.2.2.1 b hbn).1 cf_15 us0 (by decide) fl_0_18 (rfl) d0_mayHold_9 ?_
    refine lv_iload_n hx hb d0_mayHold_12 rfl (lv_at hl 1 rfl) ?_
    refine lv_icmp_ne (tgt := 20) hx hb d0_mayHold_13 (by decide) (fun c_2 => ?_) (fun c_2 => ?_)
    · refine lv_iconst (v := 0) hx hb d0_mayHold_20 (by decide) ?_
      exact se_pz C0 (Or.inl rfl) (by rw [if_neg c_1, if_neg c_2] at hO; exact hO) d0_mayHold_21
    · refine lv_iconst (v := 1) hx hb d0_mayHold_16 (by decide) ?_
      refine lv_goto (tgt := 21) hx hb d0_mayHold_17 (by decide) ?_
      exact se_pz C0 (Or.inr rfl) (by rw [if_neg c_1, if_pos c_2] at hO; exact hO) d0_mayHold_21
theorem z0_mayHold (S A : sS) (G : sG) (b : Nat) (x1 : Int32) : V0_mayHold S A G b x1 = 0 ∨ V0_mayHold S A G b x1 = 1 := by
  unfold V0_mayHold
  (repeat' split) <;> first | exact Or.inl rfl | exact Or.inr rfl
theorem hd0_mayHold : y0_mayHold.cls = R0 ∧ y0_mayHold.cls ≠ "java/lang/invoke/MethodHandle" ∧ y0_mayHold.cls ≠ "java/lang/invoke/VarHandle" ∧ (parseMethodDescriptor y0_mayHold.desc).map (fun d => d.parameters.length) = some 1 := ⟨rfl, by decide, by decide, by decide +kernel⟩
theorem m0_mayHold {l : Launch} {D : va_G} {aC : Nat → ClassId} {ad : Nat → Nat → Nat} {X : Nat → Nat → Prop} {S A : sS} {G : sG} (hX : xC X G) (b : Nat) (x1 : Int32) (hbn : b < 64) : Met l y0_mayHold (.code y0_mayHold b0_mayHold 2 (some .boolean) :: wall) (rmk 0) (s_Pc [.ref (ad 15 b), .int x1] D aC ad X S A G) (s_Qp (V0_mayHold S A G b x1)) 0 0 (fun _ => False) :=
  s_met (by decide) rfl (Nat.le_of_ble_eq_true rfl) (fun p e s m args below meth c C0 hB ls hl => k0_mayHold_0 C0 hB hX b x1 hbn hl rfl)

def V0_sumFrom_4 (G : sG) (b : Nat) (x1 : Int32) : Nat → sS → sS → Int32 → Nat → Int32
  | 0, S, A, _, _ => 0
  | r + 1, S, A, z2, j3 => if S 15 b 3 ≤ nI j3 then z2 else V0_sumFrom_4 G b x1 r S A (z2 + (A 17 b j3)) (j3 + 1)
def V0_sumFrom (S A : sS) (G : sG) (b : Nat) (x1 : Int32) : Int32 := V0_sumFrom_4 G b x1 7 S A 0 (x1.toNatClampNeg)
set_option maxRecDepth 100000 in
set_option maxHeartbeats 4000000 in
theorem k0_sumFrom_4 {p : Program} {l : Launch} {e : Env} {s : State} {m : MethodId} {args : Array Value} {below : List Frame} {meth : Method} {c : Code} {D : va_G} {aC : Nat → ClassId} {ad : Nat → Nat → Nat} {X : Nat → Nat → Prop} {G : sG} {S A : sS} (C0 : s_C p s m args meth c b0_sumFrom 4 R0 (some .int) D aC) (hB : s_B D aC ad X (s_N ad X) S A G s.heap s.heap []) (hX : xC X G) (b : Nat) (x1 : Int32) (hbn : b < 64) (hL : 0 ≤ (S 15 b 3).toInt ∧ (S 15 b 3).toInt ≤ 6) (hfi : 0 ≤ x1.toInt ∧ x1.toInt ≤ 6) : ∀ (r : Nat) (z2 : Int32) (j3 : Nat) (hj : j3 ≤ 6) (hr3 : 6 < j3 + r) {ls : Array Slot} (hl : lv_has ls 4 [(0, .ref (ad 15 b)), (1, .int x1), (2, .int z2), (3, .int (nI j3))]) {o : Int32} (hO : V0_sumFrom_4 G b x1 r S A z2 j3 = o), W p l e (rmk 0) s m args below meth c s.heap [] 0 0 (MQ below (s_Qp o) args s 0 0 (fun _ => False)) (F0 m 4 ls []) := by
  obtain ⟨hx, hb, hml, hown, hw, hK, hr, hlocks⟩ := id C0
  intro r
  induction r with
  | zero =>
    intro z2 j3 hj hr3 ls hl o hO
    exact absurd hr3 (by omega)
  | succ r ih =>
    intro z2 j3 hj hr3 ls hl o hO
    rw [V0_sumFrom_4] at hO
    refine lv_iload_n hx hb d0_sumFrom_4 rfl (lv_at hl 3 rfl) ?_
    refine lv_aload_n hx hb d0_sumFrom_5 rfl (lv_at hl 0 rfl) ?_
    refine sr_get (v := .int (S 15 b 3)) hx hb hw hown hK hB 3 (hX.2.2.1 b hbn).1 cf_15 us0 (by decide) fl_0_22 (rfl) d0_sumFrom_6 ?_
    refine lv_icmp_ge (tgt := 27) hx hb d0_sumFrom_9 (by decide) (fun c_1 => ?_) (fun c_1 => ?_)
    · refine lv_iload_n hx hb d0_sumFrom_27 rfl (lv_at hl 2 rfl) ?_
      exact se_pi C0 (by rw [if_pos c_1] at hO; exact hO) d0_sumFrom_28
    · refine lv_iload_n hx hb d0_sumFrom_12 rfl (lv_at hl 2 rfl) ?_
      refine lv_aload_n hx hb d0_sumFrom_13 rfl (lv_at hl 0 rfl) ?_
      refine sr_get (v := .ref (ad 17 b)) hx hb hw hown hK hB 1 (hX.2.2.1 b hbn).1 cf_15 us0 (by decide) fl_0_15 (rfl) d0_sumFrom_14 ?_
      refine lv_iload_n hx hb d0_sumFrom_17 rfl (lv_at hl 3 rfl) ?_
      refine sr_iald (v := A 17 b j3) hx hb hK hB (hX.2.2.1 b hbn).2.2 rfl rfl (vp_in_nI (show j3 < 6 by (have aj3 := nI_toInt (n := j3) (by omega)); (have kc_1 := nle_i c_1); (have l15 : (15 : Int32).toInt = 15 := rfl); (have l3 : (3 : Int32).toInt = 3 := rfl);  omega) (by decide)) d0_sumFrom_18 (s_cl (by omega)) ?_
      refine lv_iadd hx hb d0_sumFrom_19 ?_
      refine lv_istore_n (lv' := [(2, .int (z2 + (A 17 b j3))), (0, .ref (ad 15 b)), (1, .int x1), (3, .int (nI j3))]) hx hb d0_sumFrom_20 rfl hl (by decide) rfl (fun ls hl => ?_)
      refine lv_iinc (v := nI (j3 + 1)) (lv' := [(3, .int (nI (j3 + 1))), (2, .int (z2 + (A 17 b j3))), (0, .ref (ad 15 b)), (1, .int x1)]) hx hb d0_sumFrom_21 hl (k := 3) rfl (nI_1 j3) (by decide) rfl (fun ls hl => ?_)
      refine lv_goto (tgt := 4) hx hb d0_sumFrom_24 (by decide) ?_
      exact ih (z2 + (A 17 b j3)) (j3 + 1) (by (have aj3 := nI_toInt (n := j3) (by omega)); (have kc_1 := nle_i c_1); (have l15 : (15 : Int32).toInt = 15 := rfl); (have l3 : (3 : Int32).toInt = 3 := rfl);  omega) (by (have aj3 := nI_toInt (n := j3) (by omega)); (have kc_1 := nle_i c_1); (have l15 : (15 : Int32).toInt = 15 := rfl); (have l3 : (3 : Int32).toInt = 3 := rfl);  omega) (lv_sub hl [2, 3, 1, 0] rfl) (by rw [if_neg c_1] at hO; exact hO)
set_option maxRecDepth 100000 in
set_option maxHeartbeats 4000000 in
theorem k0_sumFrom_0 {p : Program} {l : Launch} {e : Env} {s : State} {m : MethodId} {args : Array Value} {below : List Frame} {meth : Method} {c : Code} {D : va_G} {aC : Nat → ClassId} {ad : Nat → Nat → Nat} {X : Nat → Nat → Prop} {S A : sS} {G : sG} (C0 : s_C p s m args meth c b0_sumFrom 4 R0 (some .int) D aC) (hB : s_B D aC ad X (s_N ad X) S A G s.heap s.heap []) (hX : xC X G) (b : Nat) (x1 : Int32) (hbn : b < 64) (hL : 0 ≤ (S 15 b 3).toInt ∧ (S 15 b 3).toInt ≤ 6) (hfi : 0 ≤ x1.toInt ∧ x1.toInt ≤ 6) {ls : Array Slot} (hl : lv_has ls 4 [(0, .ref (ad 15 b)), (1, .int x1)]) {o : Int32} (hO : V0_sumFrom S A G b x1 = o) : W p l e (rmk 0) s m args below meth c s.heap [] 0 0 (MQ below (s_Qp o) args s 0 0 (fun _ => False)) (F0 m 0 ls []) := by
  obtain ⟨hx, hb, hml, hown, hw, hK, hr, hlocks⟩ := id C0
  unfold V0_sumFrom at hO
  refine lv_iconst (v := 0) hx hb d0_sumFrom_0 (by decide) ?_
  refine lv_istore_n (lv' := [(2, .int 0), (0, .ref (ad 15 b)), (1, .int x1)]) hx hb d0_sumFrom_1 rfl hl (by decide) rfl (fun ls hl => ?_)
  refine lv_iload_n hx hb d0_sumFrom_2 rfl (lv_at hl 2 rfl) ?_
  refine sr_top (y := nI (x1.toNatClampNeg)) (nI_cl hfi.1) ?_
  refine lv_istore_n (lv' := [(3, .int (nI (x1.toNatClampNeg))), (2, .int 0), (0, .ref (ad 15 b)), (1, .int x1)]) hx hb d0_sumFrom_3 rfl hl (by decide) rfl (fun ls hl => ?_)
  exact k0_sumFrom_4 C0 hB hX b x1 hbn hL hfi 7 0 (x1.toNatClampNeg) (by  (have hc := cl_i hfi.1); omega) (by  (have hc := cl_i hfi.1); omega) (lv_sub hl [2, 3, 1, 0] rfl) (hO)
theorem hd0_sumFrom : y0_sumFrom.cls = R0 ∧ y0_sumFrom.cls ≠ "java/lang/invoke/MethodHandle" ∧ y0_sumFrom.cls ≠ "java/lang/invoke/VarHandle" ∧ (parseMethodDescriptor y0_sumFrom.desc).map (fun d => d.parameters.length) = some 1 := ⟨rfl, by decide, by decide, by decide +kernel⟩
theorem m0_sumFrom {l : Launch} {D : va_G} {aC : Nat → ClassId} {ad : Nat → Nat → Nat} {X : Nat → Nat → Prop} {S A : sS} {G : sG} (hX : xC X G) (b : Nat) (x1 : Int32) (hbn : b < 64) (hL : 0 ≤ (S 15 b 3).toInt ∧ (S 15 b 3).toInt ≤ 6) (hfi : 0 ≤ x1.toInt ∧ x1.toInt ≤ 6) : Met l y0_sumFrom (.code y0_sumFrom b0_sumFrom 4 (some .int) :: wall) (rmk 0) (s_Pc [.ref (ad 15 b), .int x1] D aC ad X S A G) (s_Qp (V0_sumFrom S A G b x1)) 0 0 (fun _ => False) :=
  s_met (by decide) rfl (Nat.le_of_ble_eq_true rfl) (fun p e s m args below meth c C0 hB ls hl => k0_sumFrom_0 C0 hB hX b x1 hbn hL hfi hl rfl)

def V0_book (S A : sS) (G : sG) (b : Nat) : Int32 := V0_sumFrom S A G b 0
set_option maxRecDepth 100000 in
set_option maxHeartbeats 4000000 in
theorem k0_book_0 {p : Program} {l : Launch} {e : Env} {s : State} {m : MethodId} {args : Array Value} {below : List Frame} {meth : Method} {c : Code} {D : va_G} {aC : Nat → ClassId} {ad : Nat → Nat → Nat} {X : Nat → Nat → Prop} {S A : sS} {G : sG} (C0 : s_C p s m args meth c b0_book 1 R0 (some .int) D aC) (hB : s_B D aC ad X (s_N ad X) S A G s.heap s.heap []) (hX : xC X G) (b : Nat) (hbn : b < 64) (hL : 0 ≤ (S 15 b 3).toInt ∧ (S 15 b 3).toInt ≤ 6) {ls : Array Slot} (hl : lv_has ls 1 [(0, .ref (ad 15 b))]) {o : Int32} (hO : V0_book S A G b = o) : W p l e (rmk 1) s m args below meth c s.heap [] 0 0 (MQ below (s_Qp o) args s 0 0 (fun _ => False)) (F0 m 0 ls []) := by
  obtain ⟨hx, hb, hml, hown, hw, hK, hr, hlocks⟩ := id C0
  unfold V0_book at hO
  refine lv_aload_n hx hb d0_book_0 rfl (lv_at hl 0 rfl) ?_
  refine lv_iconst (v := 0) hx hb d0_book_1 (by decide) ?_
  refine sr_vp C0 hB (m0_sumFrom hX b 0 (by  first | assumption | omega) (by  first | assumption | omega) (by decide)) (hX.2.2.1 b hbn).1 cf_15 ml_0_32 im_0_sumFrom se_0_sumFrom in_0 cd_0_sumFrom hd0_sumFrom ⟨⟨rfl, rfl⟩, by decide, by decide⟩ ⟨Nat.zero_le _, Nat.zero_le _⟩ hl.1 rfl (Nat.le_of_ble_eq_true rfl) d0_book_2 ?_
  exact se_pi C0 (hO) d0_book_5
theorem hd0_book : y0_book.cls = R0 ∧ y0_book.cls ≠ "java/lang/invoke/MethodHandle" ∧ y0_book.cls ≠ "java/lang/invoke/VarHandle" ∧ (parseMethodDescriptor y0_book.desc).map (fun d => d.parameters.length) = some 0 := ⟨rfl, by decide, by decide, by decide +kernel⟩
theorem m0_book {l : Launch} {D : va_G} {aC : Nat → ClassId} {ad : Nat → Nat → Nat} {X : Nat → Nat → Prop} {S A : sS} {G : sG} (hX : xC X G) (b : Nat) (hbn : b < 64) (hL : 0 ≤ (S 15 b 3).toInt ∧ (S 15 b 3).toInt ≤ 6) : Met l y0_book (.code y0_book b0_book 1 (some .int) :: wall) (rmk 1) (s_Pc [.ref (ad 15 b)] D aC ad X S A G) (s_Qp (V0_book S A G b)) 0 0 (fun _ => False) :=
  s_met (by decide) rfl (Nat.le_of_ble_eq_true rfl) (fun p e s m args below meth c C0 hB ls hl => k0_book_0 C0 hB hX b hbn hL hl rfl)

def V0_firstGiven_2 (G : sG) (b : Nat) (x1 : Int32) : Nat → sS → sS → Nat → Int32
  | 0, S, A, _ => 0
  | r + 1, S, A, j2 => if S 15 b 3 ≤ nI j2 then nI j2 else if x1 < A 16 b j2 then nI j2 else V0_firstGiven_2 G b x1 r S A (j2 + 1)
def V0_firstGiven (S A : sS) (G : sG) (b : Nat) (x1 : Int32) : Int32 := V0_firstGiven_2 G b x1 7 S A 0
set_option maxRecDepth 100000 in
set_option maxHeartbeats 4000000 in
theorem k0_firstGiven_2 {p : Program} {l : Launch} {e : Env} {s : State} {m : MethodId} {args : Array Value} {below : List Frame} {meth : Method} {c : Code} {D : va_G} {aC : Nat → ClassId} {ad : Nat → Nat → Nat} {X : Nat → Nat → Prop} {G : sG} {S A : sS} (C0 : s_C p s m args meth c b0_firstGiven 3 R0 (some .int) D aC) (hB : s_B D aC ad X (s_N ad X) S A G s.heap s.heap []) (hX : xC X G) (b : Nat) (x1 : Int32) (hbn : b < 64) (hL : 0 ≤ (S 15 b 3).toInt ∧ (S 15 b 3).toInt ≤ 6) : ∀ (r : Nat) (j2 : Nat) (hj : j2 ≤ 6) (hr3 : 6 < j2 + r) {ls : Array Slot} (hl : lv_has ls 3 [(0, .ref (ad 15 b)), (1, .int x1), (2, .int (nI j2))]) {o : Int32} (hO : V0_firstGiven_2 G b x1 r S A j2 = o), W p l e (rmk 0) s m args below meth c s.heap [] 0 0 (MQ below (s_Qp o) args s 0 0 (fun _ => False)) (F0 m 2 ls []) := by
  obtain ⟨hx, hb, hml, hown, hw, hK, hr, hlocks⟩ := id C0
  intro r
  induction r with
  | zero =>
    intro j2 hj hr3 ls hl o hO
    exact absurd hr3 (by omega)
  | succ r ih =>
    intro j2 hj hr3 ls hl o hO
    rw [V0_firstGiven_2] at hO
    refine lv_iload_n hx hb d0_firstGiven_2 rfl (lv_at hl 2 rfl) ?_
    refine lv_aload_n hx hb d0_firstGiven_3 rfl (lv_at hl 0 rfl) ?_
    refine sr_get (v := .int (S 15 b 3)) hx hb hw hown hK hB 3 (hX.2.2.1 b hbn).1 cf_15 us0 (by decide) fl_0_22 (rfl) d0_firstGiven_4 ?_
    refine lv_icmp_ge (tgt := 26) hx hb d0_firstGiven_7 (by decide) (fun c_1 => ?_) (fun c_1 => ?_)
    · refine lv_iload_n hx hb d0_firstGiven_26 rfl (lv_at hl 2 rfl) ?_
      exact se_pi C0 (by rw [if_pos c_1] at hO; exact hO) d0_firstGiven_27
    · refine lv_aload_n hx hb d0_firstGiven_10 rfl (lv_at hl 0 rfl) ?_
      refine sr_get (v := .ref (ad 16 b)) hx hb hw hown hK hB 0 (hX.2.2.1 b hbn).1 cf_15 us0 (by decide) fl_0_9 (rfl) d0_firstGiven_11 ?_
      refine lv_iload_n hx hb d0_firstGiven_14 rfl (lv_at hl 2 rfl) ?_
      refine sr_iald (v := A 16 b j2) hx hb hK hB (hX.2.2.1 b hbn).2.1 rfl rfl (vp_in_nI (show j2 < 6 by (have aj2 := nI_toInt (n := j2) (by omega)); (have kc_1 := nle_i c_1); (have l15 : (15 : Int32).toInt = 15 := rfl); (have l3 : (3 : Int32).toInt = 3 := rfl);  omega) (by decide)) d0_firstGiven_15 (s_cl (by omega)) ?_
      refine lv_iload_n hx hb d0_firstGiven_16 rfl (lv_at hl 1 rfl) ?_
      refine lv_icmp_gt (tgt := 26) hx hb d0_firstGiven_17 (by decide) (fun c_2 => ?_) (fun c_2 => ?_)
      · refine lv_iload_n hx hb d0_firstGiven_26 rfl (lv_at hl 2 rfl) ?_
        exact se_pi C0 (by rw [if_neg c_1, if_pos c_2] at hO; exact hO) d0_firstGiven_27
      · refine lv_iinc (v := nI (j2 + 1)) (lv' := [(2, .int (nI (j2 + 1))), (0, .ref (ad 15 b)), (1, .int x1)]) hx hb d0_firstGiven_20 hl (k := 2) rfl (nI_1 j2) (by decide) rfl (fun ls hl => ?_)
        refine lv_goto (tgt := 2) hx hb d0_firstGiven_23 (by decide) ?_
        exact ih (j2 + 1) (by (have aj2 := nI_toInt (n := j2) (by omega)); (have kc_1 := nle_i c_1); (have l15 : (15 : Int32).toInt = 15 := rfl); (have l3 : (3 : Int32).toInt = 3 := rfl);  omega) (by (have aj2 := nI_toInt (n := j2) (by omega)); (have kc_1 := nle_i c_1); (have l15 : (15 : Int32).toInt = 15 := rfl); (have l3 : (3 : Int32).toInt = 3 := rfl);  omega) (lv_sub hl [1, 2, 0] rfl) (by rw [if_neg c_1, if_neg c_2] at hO; exact hO)
set_option maxRecDepth 100000 in
set_option maxHeartbeats 4000000 in
theorem k0_firstGiven_0 {p : Program} {l : Launch} {e : Env} {s : State} {m : MethodId} {args : Array Value} {below : List Frame} {meth : Method} {c : Code} {D : va_G} {aC : Nat → ClassId} {ad : Nat → Nat → Nat} {X : Nat → Nat → Prop} {S A : sS} {G : sG} (C0 : s_C p s m args meth c b0_firstGiven 3 R0 (some .int) D aC) (hB : s_B D aC ad X (s_N ad X) S A G s.heap s.heap []) (hX : xC X G) (b : Nat) (x1 : Int32) (hbn : b < 64) (hL : 0 ≤ (S 15 b 3).toInt ∧ (S 15 b 3).toInt ≤ 6) {ls : Array Slot} (hl : lv_has ls 3 [(0, .ref (ad 15 b)), (1, .int x1)]) {o : Int32} (hO : V0_firstGiven S A G b x1 = o) : W p l e (rmk 0) s m args below meth c s.heap [] 0 0 (MQ below (s_Qp o) args s 0 0 (fun _ => False)) (F0 m 0 ls []) := by
  obtain ⟨hx, hb, hml, hown, hw, hK, hr, hlocks⟩ := id C0
  unfold V0_firstGiven at hO
  refine lv_iconst (v := 0) hx hb d0_firstGiven_0 (by decide) ?_
  refine lv_istore_n (lv' := [(2, .int 0), (0, .ref (ad 15 b)), (1, .int x1)]) hx hb d0_firstGiven_1 rfl hl (by decide) rfl (fun ls hl => ?_)
  exact k0_firstGiven_2 C0 hB hX b x1 hbn hL 7 0 (by  omega) (by  omega) (lv_sub hl [1, 2, 0] rfl) (hO)
theorem hd0_firstGiven : y0_firstGiven.cls = R0 ∧ y0_firstGiven.cls ≠ "java/lang/invoke/MethodHandle" ∧ y0_firstGiven.cls ≠ "java/lang/invoke/VarHandle" ∧ (parseMethodDescriptor y0_firstGiven.desc).map (fun d => d.parameters.length) = some 1 := ⟨rfl, by decide, by decide, by decide +kernel⟩
theorem m0_firstGiven {l : Launch} {D : va_G} {aC : Nat → ClassId} {ad : Nat → Nat → Nat} {X : Nat → Nat → Prop} {S A : sS} {G : sG} (hX : xC X G) (b : Nat) (x1 : Int32) (hbn : b < 64) (hL : 0 ≤ (S 15 b 3).toInt ∧ (S 15 b 3).toInt ≤ 6) : Met l y0_firstGiven (.code y0_firstGiven b0_firstGiven 3 (some .int) :: wall) (rmk 0) (s_Pc [.ref (ad 15 b), .int x1] D aC ad X S A G) (s_Qp (V0_firstGiven S A G b x1)) 0 0 (fun _ => False) :=
  s_met (by decide) rfl (Nat.le_of_ble_eq_true rfl) (fun p e s m args below meth c C0 hB ls hl => k0_firstGiven_0 C0 hB hX b x1 hbn hL hl rfl)

theorem fg_in {S A : sS} {G : sG} {b : Nat} {x1 : Int32} (hL : 0 ≤ (S 15 b 3).toInt ∧ (S 15 b 3).toInt ≤ 6) : 0 ≤ (V0_firstGiven S A G b x1).toInt ∧ (V0_firstGiven S A G b x1).toInt ≤ 6 := by
  have h : ∀ (r j : Nat), 6 < j + r → j ≤ 6 → 0 ≤ (V0_firstGiven_2 G b x1 r S A j).toInt ∧ (V0_firstGiven_2 G b x1 r S A j).toInt ≤ 6 := by
    intro r
    induction r with
    | zero => intro j h1 h2; omega
    | succ r ih =>
      intro j h1 h2
      have a := nI_toInt (n := j) (by omega)
      rw [V0_firstGiven_2]
      by_cases c1 : S 15 b 3 ≤ nI j
      · rw [if_pos c1]; omega
      · rw [if_neg c1]
        have k := nle_i c1
        by_cases c2 : x1 < A 16 b j
        · rw [if_pos c2]; omega
        · rw [if_neg c2]; exact ih (j + 1) (by omega) (by omega)
  exact h 7 0 (by omega) (by omega)

def V0_given (S A : sS) (G : sG) (b : Nat) (x1 : Int32) : Int32 := V0_sumFrom S A G b (V0_firstGiven S A G b x1)
set_option maxRecDepth 100000 in
set_option maxHeartbeats 4000000 in
theorem k0_given_0 {p : Program} {l : Launch} {e : Env} {s : State} {m : MethodId} {args : Array Value} {below : List Frame} {meth : Method} {c : Code} {D : va_G} {aC : Nat → ClassId} {ad : Nat → Nat → Nat} {X : Nat → Nat → Prop} {S A : sS} {G : sG} (C0 : s_C p s m args meth c b0_given 2 R0 (some .int) D aC) (hB : s_B D aC ad X (s_N ad X) S A G s.heap s.heap []) (hX : xC X G) (b : Nat) (x1 : Int32) (hbn : b < 64) (hL : 0 ≤ (S 15 b 3).toInt ∧ (S 15 b 3).toInt ≤ 6) {ls : Array Slot} (hl : lv_has ls 2 [(0, .ref (ad 15 b)), (1, .int x1)]) {o : Int32} (hO : V0_given S A G b x1 = o) : W p l e (rmk 1) s m args below meth c s.heap [] 0 0 (MQ below (s_Qp o) args s 0 0 (fun _ => False)) (F0 m 0 ls []) := by
  obtain ⟨hx, hb, hml, hown, hw, hK, hr, hlocks⟩ := id C0
  unfold V0_given at hO
  refine lv_aload_n hx hb d0_given_0 rfl (lv_at hl 0 rfl) ?_
  refine lv_aload_n hx hb d0_given_1 rfl (lv_at hl 0 rfl) ?_
  refine lv_iload_n hx hb d0_given_2 rfl (lv_at hl 1 rfl) ?_
  refine sr_vp C0 hB (m0_firstGiven hX b x1 (by  first | assumption | omega) (by  first | assumption | omega)) (hX.2.2.1 b hbn).1 cf_15 ml_0_36 im_0_firstGiven se_0_firstGiven in_0 cd_0_firstGiven hd0_firstGiven ⟨⟨rfl, rfl⟩, by decide, by decide⟩ ⟨Nat.zero_le _, Nat.zero_le _⟩ hl.1 rfl (Nat.le_of_ble_eq_true rfl) d0_given_3 ?_
  refine sr_vp C0 hB (m0_sumFrom hX b (V0_firstGiven S A G b x1) (by  first | assumption | omega) (by  first | assumption | omega) (fg_in hL)) (hX.2.2.1 b hbn).1 cf_15 ml_0_32 im_0_sumFrom se_0_sumFrom in_0 cd_0_sumFrom hd0_sumFrom ⟨⟨rfl, rfl⟩, by decide, by decide⟩ ⟨Nat.zero_le _, Nat.zero_le _⟩ hl.1 rfl (Nat.le_of_ble_eq_true rfl) d0_given_6 ?_
  exact se_pi C0 (hO) d0_given_9
theorem hd0_given : y0_given.cls = R0 ∧ y0_given.cls ≠ "java/lang/invoke/MethodHandle" ∧ y0_given.cls ≠ "java/lang/invoke/VarHandle" ∧ (parseMethodDescriptor y0_given.desc).map (fun d => d.parameters.length) = some 1 := ⟨rfl, by decide, by decide, by decide +kernel⟩
theorem m0_given {l : Launch} {D : va_G} {aC : Nat → ClassId} {ad : Nat → Nat → Nat} {X : Nat → Nat → Prop} {S A : sS} {G : sG} (hX : xC X G) (b : Nat) (x1 : Int32) (hbn : b < 64) (hL : 0 ≤ (S 15 b 3).toInt ∧ (S 15 b 3).toInt ≤ 6) : Met l y0_given (.code y0_given b0_given 2 (some .int) :: wall) (rmk 1) (s_Pc [.ref (ad 15 b), .int x1] D aC ad X S A G) (s_Qp (V0_given S A G b x1)) 0 0 (fun _ => False) :=
  s_met (by decide) rfl (Nat.le_of_ble_eq_true rfl) (fun p e s m args below meth c C0 hB ls hl => k0_given_0 C0 hB hX b x1 hbn hL hl rfl)

def O0_addLot_15 (G : sG) (b : Nat) (x1 : Int32) (x2 : Int32) : Nat → sS → sS → Nat → sS × sS
  | 0, S, A, _ => (S, A)
  | r + 1, S, A, j3 => if nI j3 ≤ 0 then ((up3 S 15 b 3 ((S 15 b 3) + 1)), (up3 (up3 A 16 b j3 x2) 17 b j3 x1)) else if A 16 b (j3 - 1) ≤ x2 then ((up3 S 15 b 3 ((S 15 b 3) + 1)), (up3 (up3 A 16 b j3 x2) 17 b j3 x1)) else O0_addLot_15 G b x1 x2 r S (up3 (up3 A 16 b j3 (A 16 b (j3 - 1))) 17 b j3 (A 17 b (j3 - 1))) (j3 - 1)
def O0_addLot (S A : sS) (G : sG) (b : Nat) (x1 : Int32) (x2 : Int32) : sS × sS := if S 15 b 3 < 6 then O0_addLot_15 G b x1 x2 7 S A ((S 15 b 3).toNatClampNeg) else (S, A)
set_option maxRecDepth 100000 in
set_option maxHeartbeats 4000000 in
theorem k0_addLot_15 {p : Program} {l : Launch} {e : Env} {s : State} {m : MethodId} {args : Array Value} {below : List Frame} {meth : Method} {c : Code} {D : va_G} {aC : Nat → ClassId} {ad : Nat → Nat → Nat} {X : Nat → Nat → Prop} {G : sG} (C0 : s_C p s m args meth c b0_addLot 4 R0 none D aC) (hX : xC X G) (b : Nat) (x1 : Int32) (x2 : Int32) : ∀ (r : Nat) {S A : sS} {H : Heap} {locs : List Loc} (hB : s_B D aC ad X (s_N ad X) S A G s.heap H locs) (j3 : Nat) (hbn : b < 64) (hj : j3 < 6) (hr3 : j3 < r) {ls : Array Slot} (hl : lv_has ls 4 [(0, .ref (ad 15 b)), (1, .int x1), (2, .int x2), (3, .int (nI j3))]) {o : sS × sS} (hO : O0_addLot_15 G b x1 x2 r S A j3 = o), W p l e (rmk 0) s m args below meth c H locs 0 0 (MQ below (s_Qv D aC ad X G o) args s 0 0 (s_N ad X)) (F0 m 15 ls []) := by
  obtain ⟨hx, hb, hml, hown, hw, hK, hr, hlocks⟩ := id C0
  intro r
  induction r with
  | zero =>
    intro S A H locs hB j3 hbn hj hr3 ls hl o hO
    exact absurd hr3 (by omega)
  | succ r ih =>
    intro S A H locs hB j3 hbn hj hr3 ls hl o hO
    rw [O0_addLot_15] at hO
    refine lv_iload_n hx hb d0_addLot_15 rfl (lv_at hl 3 rfl) ?_
    refine lv_if_le (tgt := 65) hx hb d0_addLot_16 (by decide) (fun c_1 => ?_) (fun c_1 => ?_)
    · refine lv_aload_n hx hb d0_addLot_65 rfl (lv_at hl 0 rfl) ?_
      refine sr_get (v := .ref (ad 16 b)) hx hb hw hown hK hB 0 (hX.2.2.1 b hbn).1 cf_15 us0 (by decide) fl_0_9 (rfl) d0_addLot_66 ?_
      refine lv_iload_n hx hb d0_addLot_69 rfl (lv_at hl 3 rfl) ?_
      refine lv_iload_n hx hb d0_addLot_70 rfl (lv_at hl 2 rfl) ?_
      refine sr_iast hx hb hK hB (hX.2.2.1 b hbn).2.1 rfl rfl (vp_in_nI (show j3 < 6 by (have aj3 := nI_toInt (n := j3) (by omega)); (have kc_1 := le_i c_1); (have l0 : (0 : Int32).toInt = 0 := rfl);  omega) (by decide)) d0_addLot_71 (fun H locs hB => ?_)
      rw [nI_clamp (show j3 < 2 ^ 31 by omega)] at hB
      refine lv_aload_n hx hb d0_addLot_72 rfl (lv_at hl 0 rfl) ?_
      refine sr_get (v := .ref (ad 17 b)) hx hb hw hown hK hB 1 (hX.2.2.1 b hbn).1 cf_15 us0 (by decide) fl_0_15 (rfl) d0_addLot_73 ?_
      refine lv_iload_n hx hb d0_addLot_76 rfl (lv_at hl 3 rfl) ?_
      refine lv_iload_n hx hb d0_addLot_77 rfl (lv_at hl 1 rfl) ?_
      refine sr_iast hx hb hK hB (hX.2.2.1 b hbn).2.2 rfl rfl (vp_in_nI (show j3 < 6 by (have aj3 := nI_toInt (n := j3) (by omega)); (have kc_1 := le_i c_1); (have l0 : (0 : Int32).toInt = 0 := rfl);  omega) (by decide)) d0_addLot_78 (fun H locs hB => ?_)
      rw [nI_clamp (show j3 < 2 ^ 31 by omega)] at hB
      refine lv_aload_n hx hb d0_addLot_79 rfl (lv_at hl 0 rfl) ?_
      refine lv_dup hx hb d0_addLot_80 rfl ?_
      refine sr_get (v := .int (S 15 b 3)) hx hb hw hown hK hB 3 (hX.2.2.1 b hbn).1 cf_15 us0 (by decide) fl_0_22 (rfl) d0_addLot_81 ?_
      refine lv_iconst (v := 1) hx hb d0_addLot_84 (by decide) ?_
      refine lv_iadd hx hb d0_addLot_85 ?_
      refine sr_put hx hb hw hown hK hB 3 (hX.2.2.1 b hbn).1 cf_15 us0 tk0 nm0 (by decide) fl_0_22 rfl rfl rfl rfl d0_addLot_86 (fun H locs hB => ?_)
      exact se_v C0 hB (by rw [if_pos c_1] at hO; exact hO) d0_addLot_89
    · refine lv_aload_n hx hb d0_addLot_19 rfl (lv_at hl 0 rfl) ?_
      refine sr_get (v := .ref (ad 16 b)) hx hb hw hown hK hB 0 (hX.2.2.1 b hbn).1 cf_15 us0 (by decide) fl_0_9 (rfl) d0_addLot_20 ?_
      refine lv_iload_n hx hb d0_addLot_23 rfl (lv_at hl 3 rfl) ?_
      refine lv_iconst (v := 1) hx hb d0_addLot_24 (by decide) ?_
      refine lv_isub hx hb d0_addLot_25 ?_
      refine sr_iald (v := A 16 b (j3 - 1)) hx hb hK hB (hX.2.2.1 b hbn).2.1 rfl rfl (by (have aj3 := nI_toInt (n := j3) (by omega)); (have kc_1 := nle_i c_1); (have l0 : (0 : Int32).toInt = 0 := rfl);  exact ixm_in (j := j3) (by omega) (by omega) (show j3 ≤ 6 by omega)) d0_addLot_26 (by (have aj3 := nI_toInt (n := j3) (by omega)); (have kc_1 := nle_i c_1); (have l0 : (0 : Int32).toInt = 0 := rfl);  exact Eq.trans (congrArg (fun q => A 16 b q) (ixm (j := j3) (by omega) (by omega))) rfl) ?_
      refine lv_iload_n hx hb d0_addLot_27 rfl (lv_at hl 2 rfl) ?_
      refine lv_icmp_le (tgt := 65) hx hb d0_addLot_28 (by decide) (fun c_2 => ?_) (fun c_2 => ?_)
      · refine lv_aload_n hx hb d0_addLot_65 rfl (lv_at hl 0 rfl) ?_
        refine sr_get (v := .ref (ad 16 b)) hx hb hw hown hK hB 0 (hX.2.2.1 b hbn).1 cf_15 us0 (by decide) fl_0_9 (rfl) d0_addLot_66 ?_
        refine lv_iload_n hx hb d0_addLot_69 rfl (lv_at hl 3 rfl) ?_
        refine lv_iload_n hx hb d0_addLot_70 rfl (lv_at hl 2 rfl) ?_
        refine sr_iast hx hb hK hB (hX.2.2.1 b hbn).2.1 rfl rfl (vp_in_nI (show j3 < 6 by (have aj3 := nI_toInt (n := j3) (by omega)); (have kc_1 := nle_i c_1); (have l0 : (0 : Int32).toInt = 0 := rfl);  omega) (by decide)) d0_addLot_71 (fun H locs hB => ?_)
        rw [nI_clamp (show j3 < 2 ^ 31 by omega)] at hB
        refine lv_aload_n hx hb d0_addLot_72 rfl (lv_at hl 0 rfl) ?_
        refine sr_get (v := .ref (ad 17 b)) hx hb hw hown hK hB 1 (hX.2.2.1 b hbn).1 cf_15 us0 (by decide) fl_0_15 (rfl) d0_addLot_73 ?_
        refine lv_iload_n hx hb d0_addLot_76 rfl (lv_at hl 3 rfl) ?_
        refine lv_iload_n hx hb d0_addLot_77 rfl (lv_at hl 1 rfl) ?_
        refine sr_iast hx hb hK hB (hX.2.2.1 b hbn).2.2 rfl rfl (vp_in_nI (show j3 < 6 by (have aj3 := nI_toInt (n := j3) (by omega)); (have kc_1 := nle_i c_1); (have l0 : (0 : Int32).toInt = 0 := rfl);  omega) (by decide)) d0_addLot_78 (fun H locs hB => ?_)
        rw [nI_clamp (show j3 < 2 ^ 31 by omega)] at hB
        refine lv_aload_n hx hb d0_addLot_79 rfl (lv_at hl 0 rfl) ?_
        refine lv_dup hx hb d0_addLot_80 rfl ?_
        refine sr_get (v := .int (S 15 b 3)) hx hb hw hown hK hB 3 (hX.2.2.1 b hbn).1 cf_15 us0 (by decide) fl_0_22 (rfl) d0_addLot_81 ?_
        refine lv_iconst (v := 1) hx hb d0_addLot_84 (by decide) ?_
        refine lv_iadd hx hb d0_addLot_85 ?_
        refine sr_put hx hb hw hown hK hB 3 (hX.2.2.1 b hbn).1 cf_15 us0 tk0 nm0 (by decide) fl_0_22 rfl rfl rfl rfl d0_addLot_86 (fun H locs hB => ?_)
        exact se_v C0 hB (by rw [if_neg c_1, if_pos c_2] at hO; exact hO) d0_addLot_89
      · refine lv_aload_n hx hb d0_addLot_31 rfl (lv_at hl 0 rfl) ?_
        refine sr_get (v := .ref (ad 16 b)) hx hb hw hown hK hB 0 (hX.2.2.1 b hbn).1 cf_15 us0 (by decide) fl_0_9 (rfl) d0_addLot_32 ?_
        refine lv_iload_n hx hb d0_addLot_35 rfl (lv_at hl 3 rfl) ?_
        refine lv_aload_n hx hb d0_addLot_36 rfl (lv_at hl 0 rfl) ?_
        refine sr_get (v := .ref (ad 16 b)) hx hb hw hown hK hB 0 (hX.2.2.1 b hbn).1 cf_15 us0 (by decide) fl_0_9 (rfl) d0_addLot_37 ?_
        refine lv_iload_n hx hb d0_addLot_40 rfl (lv_at hl 3 rfl) ?_
        refine lv_iconst (v := 1) hx hb d0_addLot_41 (by decide) ?_
        refine lv_isub hx hb d0_addLot_42 ?_
        refine sr_iald (v := A 16 b (j3 - 1)) hx hb hK hB (hX.2.2.1 b hbn).2.1 rfl rfl (by (have aj3 := nI_toInt (n := j3) (by omega)); (have kc_1 := nle_i c_1); (have l0 : (0 : Int32).toInt = 0 := rfl);  exact ixm_in (j := j3) (by omega) (by omega) (show j3 ≤ 6 by omega)) d0_addLot_43 (by (have aj3 := nI_toInt (n := j3) (by omega)); (have kc_1 := nle_i c_1); (have l0 : (0 : Int32).toInt = 0 := rfl);  exact Eq.trans (congrArg (fun q => A 16 b q) (ixm (j := j3) (by omega) (by omega))) rfl) ?_
        refine sr_iast hx hb hK hB (hX.2.2.1 b hbn).2.1 rfl rfl (vp_in_nI (show j3 < 6 by (have aj3 := nI_toInt (n := j3) (by omega)); (have kc_1 := nle_i c_1); (have l0 : (0 : Int32).toInt = 0 := rfl);  omega) (by decide)) d0_addLot_44 (fun H locs hB => ?_)
        rw [nI_clamp (show j3 < 2 ^ 31 by omega)] at hB
        refine lv_aload_n hx hb d0_addLot_45 rfl (lv_at hl 0 rfl) ?_
        refine sr_get (v := .ref (ad 17 b)) hx hb hw hown hK hB 1 (hX.2.2.1 b hbn).1 cf_15 us0 (by decide) fl_0_15 (rfl) d0_addLot_46 ?_
        refine lv_iload_n hx hb d0_addLot_49 rfl (lv_at hl 3 rfl) ?_
        refine lv_aload_n hx hb d0_addLot_50 rfl (lv_at hl 0 rfl) ?_
        refine sr_get (v := .ref (ad 17 b)) hx hb hw hown hK hB 1 (hX.2.2.1 b hbn).1 cf_15 us0 (by decide) fl_0_15 (rfl) d0_addLot_51 ?_
        refine lv_iload_n hx hb d0_addLot_54 rfl (lv_at hl 3 rfl) ?_
        refine lv_iconst (v := 1) hx hb d0_addLot_55 (by decide) ?_
        refine lv_isub hx hb d0_addLot_56 ?_
        refine sr_iald (v := A 17 b (j3 - 1)) hx hb hK hB (hX.2.2.1 b hbn).2.2 rfl rfl (by (have aj3 := nI_toInt (n := j3) (by omega)); (have kc_1 := nle_i c_1); (have l0 : (0 : Int32).toInt = 0 := rfl);  exact ixm_in (j := j3) (by omega) (by omega) (show j3 ≤ 6 by omega)) d0_addLot_57 (by (have aj3 := nI_toInt (n := j3) (by omega)); (have kc_1 := nle_i c_1); (have l0 : (0 : Int32).toInt = 0 := rfl);  exact Eq.trans (congrArg (fun q => (up3 A 16 b j3 (A 16 b (j3 - 1))) 17 b q) (ixm (j := j3) (by omega) (by omega))) rfl) ?_
        refine sr_iast hx hb hK hB (hX.2.2.1 b hbn).2.2 rfl rfl (vp_in_nI (show j3 < 6 by (have aj3 := nI_toInt (n := j3) (by omega)); (have kc_1 := nle_i c_1); (have l0 : (0 : Int32).toInt = 0 := rfl);  omega) (by decide)) d0_addLot_58 (fun H locs hB => ?_)
        rw [nI_clamp (show j3 < 2 ^ 31 by omega)] at hB
        refine lv_iinc (v := nI (j3 - 1)) (lv' := [(3, .int (nI (j3 - 1))), (0, .ref (ad 15 b)), (1, .int x1), (2, .int x2)]) hx hb d0_addLot_59 hl (k := 3) rfl (by rw [ofm1]; exact sb_m1 (by (have aj3 := nI_toInt (n := j3) (by omega)); (have kc_1 := nle_i c_1); (have kc_2 := nle_i c_2); (have l0 : (0 : Int32).toInt = 0 := rfl); (have l1 : (1 : Int32).toInt = 1 := rfl); (have l16 : (16 : Int32).toInt = 16 := rfl);  omega)) (by decide) rfl (fun ls hl => ?_)
        refine lv_goto (tgt := 15) hx hb d0_addLot_62 (by decide) ?_
        exact ih hB (j3 - 1) (by (have aj3 := nI_toInt (n := j3) (by omega)); (have kc_1 := nle_i c_1); (have l0 : (0 : Int32).toInt = 0 := rfl);  exact hbn) (by (have aj3 := nI_toInt (n := j3) (by omega)); (have kc_1 := nle_i c_1); (have l0 : (0 : Int32).toInt = 0 := rfl);  omega) (by (have aj3 := nI_toInt (n := j3) (by omega)); (have kc_1 := nle_i c_1); (have l0 : (0 : Int32).toInt = 0 := rfl);  omega) (lv_sub hl [1, 2, 3, 0] rfl) (by rw [if_neg c_1, if_neg c_2] at hO; exact hO)
set_option maxRecDepth 100000 in
set_option maxHeartbeats 4000000 in
theorem k0_addLot_0 {p : Program} {l : Launch} {e : Env} {s : State} {m : MethodId} {args : Array Value} {below : List Frame} {meth : Method} {c : Code} {D : va_G} {aC : Nat → ClassId} {ad : Nat → Nat → Nat} {X : Nat → Nat → Prop} {S A : sS} {G : sG} {H : Heap} {locs : List Loc} (C0 : s_C p s m args meth c b0_addLot 4 R0 none D aC) (hB : s_B D aC ad X (s_N ad X) S A G s.heap H locs) (hX : xC X G) (b : Nat) (x1 : Int32) (x2 : Int32) (hbn : b < 64) (hL : 0 ≤ (S 15 b 3).toInt ∧ (S 15 b 3).toInt ≤ 6) {ls : Array Slot} (hl : lv_has ls 4 [(0, .ref (ad 15 b)), (1, .int x1), (2, .int x2)]) {o : sS × sS} (hO : O0_addLot S A G b x1 x2 = o) : W p l e (rmk 0) s m args below meth c H locs 0 0 (MQ below (s_Qv D aC ad X G o) args s 0 0 (s_N ad X)) (F0 m 0 ls []) := by
  obtain ⟨hx, hb, hml, hown, hw, hK, hr, hlocks⟩ := id C0
  unfold O0_addLot at hO
  refine lv_aload_n hx hb d0_addLot_0 rfl (lv_at hl 0 rfl) ?_
  refine sr_get (v := .int (S 15 b 3)) hx hb hw hown hK hB 3 (hX.2.2.1 b hbn).1 cf_15 us0 (by decide) fl_0_22 (rfl) d0_addLot_1 ?_
  refine lv_bipush (v := 6) hx hb d0_addLot_4 (by decide) ?_
  refine lv_icmp_lt (tgt := 10) hx hb d0_addLot_6 (by decide) (fun c_1 => ?_) (fun c_1 => ?_)
  · refine lv_aload_n hx hb d0_addLot_10 rfl (lv_at hl 0 rfl) ?_
    refine sr_get (v := .int (S 15 b 3)) hx hb hw hown hK hB 3 (hX.2.2.1 b hbn).1 cf_15 us0 (by decide) fl_0_22 (rfl) d0_addLot_11 ?_
    refine sr_top (y := nI ((S 15 b 3).toNatClampNeg)) (nI_cl hL.1) ?_
    refine lv_istore_n (lv' := [(3, .int (nI ((S 15 b 3).toNatClampNeg))), (0, .ref (ad 15 b)), (1, .int x1), (2, .int x2)]) hx hb d0_addLot_14 rfl hl (by decide) rfl (fun ls hl => ?_)
    exact k0_addLot_15 C0 hX b x1 x2 7 hB ((S 15 b 3).toNatClampNeg) (by (have kc_1 := lt_i c_1); (have l15 : (15 : Int32).toInt = 15 := rfl); (have l3 : (3 : Int32).toInt = 3 := rfl); (have l6 : (6 : Int32).toInt = 6 := rfl);  exact hbn) (by (have kc_1 := lt_i c_1); (have l15 : (15 : Int32).toInt = 15 := rfl); (have l3 : (3 : Int32).toInt = 3 := rfl); (have l6 : (6 : Int32).toInt = 6 := rfl);  (have hc := cl_i hL.1); omega) (by (have kc_1 := lt_i c_1); (have l15 : (15 : Int32).toInt = 15 := rfl); (have l3 : (3 : Int32).toInt = 3 := rfl); (have l6 : (6 : Int32).toInt = 6 := rfl);  (have hc := cl_i hL.1); omega) (lv_sub hl [1, 2, 3, 0] rfl) (by rw [if_pos c_1] at hO; exact hO)
  · exact se_v C0 hB (by rw [if_neg c_1] at hO; exact hO) d0_addLot_9
theorem hd0_addLot : y0_addLot.cls = R0 ∧ y0_addLot.cls ≠ "java/lang/invoke/MethodHandle" ∧ y0_addLot.cls ≠ "java/lang/invoke/VarHandle" ∧ (parseMethodDescriptor y0_addLot.desc).map (fun d => d.parameters.length) = some 2 := ⟨rfl, by decide, by decide, by decide +kernel⟩
theorem m0_addLot {l : Launch} {D : va_G} {aC : Nat → ClassId} {ad : Nat → Nat → Nat} {X : Nat → Nat → Prop} {S A : sS} {G : sG} (hX : xC X G) (b : Nat) (x1 : Int32) (x2 : Int32) (hbn : b < 64) (hL : 0 ≤ (S 15 b 3).toInt ∧ (S 15 b 3).toInt ≤ 6) : Met l y0_addLot (.code y0_addLot b0_addLot 4 none :: wall) (rmk 0) (s_Pc [.ref (ad 15 b), .int x1, .int x2] D aC ad X S A G) (s_Qv D aC ad X G (O0_addLot S A G b x1 x2)) 0 0 (s_N ad X) :=
  s_met (by decide) rfl (Nat.le_of_ble_eq_true rfl) (fun p e s m args below meth c C0 hB ls hl => k0_addLot_0 C0 hB hX b x1 x2 hbn hL hl rfl)

def O0_dropEmptyLots_4 (G : sG) (b : Nat) : Nat → sS → sS → Nat → Nat → sS × sS
  | 0, S, A, _, _ => (S, A)
  | r + 1, S, A, j1, j2 => if S 15 b 3 ≤ nI j2 then ((up3 S 15 b 3 (nI j1)), A) else if A 17 b j2 ≤ 0 then O0_dropEmptyLots_4 G b r S A j1 (j2 + 1) else O0_dropEmptyLots_4 G b r S (up3 (up3 A 16 b j1 (A 16 b j2)) 17 b j1 (A 17 b j2)) (j1 + 1) (j2 + 1)
def O0_dropEmptyLots (S A : sS) (G : sG) (b : Nat) : sS × sS := O0_dropEmptyLots_4 G b 7 S A 0 0
set_option maxRecDepth 100000 in
set_option maxHeartbeats 4000000 in
theorem k0_dropEmptyLots_4 {p : Program} {l : Launch} {e : Env} {s : State} {m : MethodId} {args : Array Value} {below : List Frame} {meth : Method} {c : Code} {D : va_G} {aC : Nat → ClassId} {ad : Nat → Nat → Nat} {X : Nat → Nat → Prop} {G : sG} (C0 : s_C p s m args meth c b0_dropEmptyLots 3 R0 none D aC) (hX : xC X G) (b : Nat) : ∀ (r : Nat) {S A : sS} {H : Heap} {locs : List Loc} (hB : s_B D aC ad X (s_N ad X) S A G s.heap H locs) (j1 : Nat) (j2 : Nat) (hbn : b < 64) (hL : 0 ≤ (S 15 b 3).toInt ∧ (S 15 b 3).toInt ≤ 6) (hj : j1 ≤ j2 ∧ j2 ≤ 6) (hr3 : 6 < j2 + r) {ls : Array Slot} (hl : lv_has ls 3 [(0, .ref (ad 15 b)), (1, .int (nI j1)), (2, .int (nI j2))]) {o : sS × sS} (hO : O0_dropEmptyLots_4 G b r S A j1 j2 = o), W p l e (rmk 0) s m args below meth c H locs 0 0 (MQ below (s_Qv D aC ad X G o) args s 0 0 (s_N ad X)) (F0 m 4 ls []) := by
  obtain ⟨hx, hb, hml, hown, hw, hK, hr, hlocks⟩ := id C0
  intro r
  induction r with
  | zero =>
    intro S A H locs hB j1 j2 hbn hL hj hr3 ls hl o hO
    exact absurd hr3 (by omega)
  | succ r ih =>
    intro S A H locs hB j1 j2 hbn hL hj hr3 ls hl o hO
    rw [O0_dropEmptyLots_4] at hO
    refine lv_iload_n hx hb d0_dropEmptyLots_4 rfl (lv_at hl 2 rfl) ?_
    refine lv_aload_n hx hb d0_dropEmptyLots_5 rfl (lv_at hl 0 rfl) ?_
    refine sr_get (v := .int (S 15 b 3)) hx hb hw hown hK hB 3 (hX.2.2.1 b hbn).1 cf_15 us0 (by decide) fl_0_22 (rfl) d0_dropEmptyLots_6 ?_
    refine lv_icmp_ge (tgt := 54) hx hb d0_dropEmptyLots_9 (by decide) (fun c_1 => ?_) (fun c_1 => ?_)
    · refine lv_aload_n hx hb d0_dropEmptyLots_54 rfl (lv_at hl 0 rfl) ?_
      refine lv_iload_n hx hb d0_dropEmptyLots_55 rfl (lv_at hl 1 rfl) ?_
      refine sr_put hx hb hw hown hK hB 3 (hX.2.2.1 b hbn).1 cf_15 us0 tk0 nm0 (by decide) fl_0_22 rfl rfl rfl rfl d0_dropEmptyLots_56 (fun H locs hB => ?_)
      exact se_v C0 hB (by rw [if_pos c_1] at hO; exact hO) d0_dropEmptyLots_59
    · refine lv_aload_n hx hb d0_dropEmptyLots_12 rfl (lv_at hl 0 rfl) ?_
      refine sr_get (v := .ref (ad 17 b)) hx hb hw hown hK hB 1 (hX.2.2.1 b hbn).1 cf_15 us0 (by decide) fl_0_15 (rfl) d0_dropEmptyLots_13 ?_
      refine lv_iload_n hx hb d0_dropEmptyLots_16 rfl (lv_at hl 2 rfl) ?_
      refine sr_iald (v := A 17 b j2) hx hb hK hB (hX.2.2.1 b hbn).2.2 rfl rfl (vp_in_nI (show j2 < 6 by (have aj1 := nI_toInt (n := j1) (by omega)); (have aj2 := nI_toInt (n := j2) (by omega)); (have kc_1 := nle_i c_1); (have l15 : (15 : Int32).toInt = 15 := rfl); (have l3 : (3 : Int32).toInt = 3 := rfl);  omega) (by decide)) d0_dropEmptyLots_17 (s_cl (by omega)) ?_
      refine lv_if_le (tgt := 48) hx hb d0_dropEmptyLots_18 (by decide) (fun c_2 => ?_) (fun c_2 => ?_)
      · refine lv_iinc (v := nI (j2 + 1)) (lv' := [(2, .int (nI (j2 + 1))), (0, .ref (ad 15 b)), (1, .int (nI j1))]) hx hb d0_dropEmptyLots_48 hl (k := 2) rfl (nI_1 j2) (by decide) rfl (fun ls hl => ?_)
        refine lv_goto (tgt := 4) hx hb d0_dropEmptyLots_51 (by decide) ?_
        exact ih hB j1 (j2 + 1) (by (have aj1 := nI_toInt (n := j1) (by omega)); (have aj2 := nI_toInt (n := j2) (by omega)); (have kc_1 := nle_i c_1); (have l15 : (15 : Int32).toInt = 15 := rfl); (have l3 : (3 : Int32).toInt = 3 := rfl);  exact hbn) (by (have aj1 := nI_toInt (n := j1) (by omega)); (have aj2 := nI_toInt (n := j2) (by omega)); (have kc_1 := nle_i c_1); (have l15 : (15 : Int32).toInt = 15 := rfl); (have l3 : (3 : Int32).toInt = 3 := rfl);  exact hL) (by (have aj1 := nI_toInt (n := j1) (by omega)); (have aj2 := nI_toInt (n := j2) (by omega)); (have kc_1 := nle_i c_1); (have l15 : (15 : Int32).toInt = 15 := rfl); (have l3 : (3 : Int32).toInt = 3 := rfl);  omega) (by (have aj1 := nI_toInt (n := j1) (by omega)); (have aj2 := nI_toInt (n := j2) (by omega)); (have kc_1 := nle_i c_1); (have l15 : (15 : Int32).toInt = 15 := rfl); (have l3 : (3 : Int32).toInt = 3 := rfl);  omega) (lv_sub hl [1, 2, 0] rfl) (by rw [if_neg c_1, if_pos c_2] at hO; exact hO)
      · refine lv_aload_n hx hb d0_dropEmptyLots_21 rfl (lv_at hl 0 rfl) ?_
        refine sr_get (v := .ref (ad 16 b)) hx hb hw hown hK hB 0 (hX.2.2.1 b hbn).1 cf_15 us0 (by decide) fl_0_9 (rfl) d0_dropEmptyLots_22 ?_
        refine lv_iload_n hx hb d0_dropEmptyLots_25 rfl (lv_at hl 1 rfl) ?_
        refine lv_aload_n hx hb d0_dropEmptyLots_26 rfl (lv_at hl 0 rfl) ?_
        refine sr_get (v := .ref (ad 16 b)) hx hb hw hown hK hB 0 (hX.2.2.1 b hbn).1 cf_15 us0 (by decide) fl_0_9 (rfl) d0_dropEmptyLots_27 ?_
        refine lv_iload_n hx hb d0_dropEmptyLots_30 rfl (lv_at hl 2 rfl) ?_
        refine sr_iald (v := A 16 b j2) hx hb hK hB (hX.2.2.1 b hbn).2.1 rfl rfl (vp_in_nI (show j2 < 6 by (have aj1 := nI_toInt (n := j1) (by omega)); (have aj2 := nI_toInt (n := j2) (by omega)); (have kc_1 := nle_i c_1); (have l15 : (15 : Int32).toInt = 15 := rfl); (have l3 : (3 : Int32).toInt = 3 := rfl);  omega) (by decide)) d0_dropEmptyLots_31 (s_cl (by omega)) ?_
        refine sr_iast hx hb hK hB (hX.2.2.1 b hbn).2.1 rfl rfl (vp_in_nI (show j1 < 6 by (have aj1 := nI_toInt (n := j1) (by omega)); (have aj2 := nI_toInt (n := j2) (by omega)); (have kc_1 := nle_i c_1); (have l15 : (15 : Int32).toInt = 15 := rfl); (have l3 : (3 : Int32).toInt = 3 := rfl);  omega) (by decide)) d0_dropEmptyLots_32 (fun H locs hB => ?_)
        rw [nI_clamp (show j1 < 2 ^ 31 by omega)] at hB
        refine lv_aload_n hx hb d0_dropEmptyLots_33 rfl (lv_at hl 0 rfl) ?_
        refine sr_get (v := .ref (ad 17 b)) hx hb hw hown hK hB 1 (hX.2.2.1 b hbn).1 cf_15 us0 (by decide) fl_0_15 (rfl) d0_dropEmptyLots_34 ?_
        refine lv_iload_n hx hb d0_dropEmptyLots_37 rfl (lv_at hl 1 rfl) ?_
        refine lv_aload_n hx hb d0_dropEmptyLots_38 rfl (lv_at hl 0 rfl) ?_
        refine sr_get (v := .ref (ad 17 b)) hx hb hw hown hK hB 1 (hX.2.2.1 b hbn).1 cf_15 us0 (by decide) fl_0_15 (rfl) d0_dropEmptyLots_39 ?_
        refine lv_iload_n hx hb d0_dropEmptyLots_42 rfl (lv_at hl 2 rfl) ?_
        refine sr_iald (v := A 17 b j2) hx hb hK hB (hX.2.2.1 b hbn).2.2 rfl rfl (vp_in_nI (show j2 < 6 by (have aj1 := nI_toInt (n := j1) (by omega)); (have aj2 := nI_toInt (n := j2) (by omega)); (have kc_1 := nle_i c_1); (have l15 : (15 : Int32).toInt = 15 := rfl); (have l3 : (3 : Int32).toInt = 3 := rfl);  omega) (by decide)) d0_dropEmptyLots_43 (s_cl (by omega)) ?_
        refine sr_iast hx hb hK hB (hX.2.2.1 b hbn).2.2 rfl rfl (vp_in_nI (show j1 < 6 by (have aj1 := nI_toInt (n := j1) (by omega)); (have aj2 := nI_toInt (n := j2) (by omega)); (have kc_1 := nle_i c_1); (have l15 : (15 : Int32).toInt = 15 := rfl); (have l3 : (3 : Int32).toInt = 3 := rfl);  omega) (by decide)) d0_dropEmptyLots_44 (fun H locs hB => ?_)
        rw [nI_clamp (show j1 < 2 ^ 31 by omega)] at hB
        refine lv_iinc (v := nI (j1 + 1)) (lv' := [(1, .int (nI (j1 + 1))), (0, .ref (ad 15 b)), (2, .int (nI j2))]) hx hb d0_dropEmptyLots_45 hl (k := 1) rfl (nI_1 j1) (by decide) rfl (fun ls hl => ?_)
        refine lv_iinc (v := nI (j2 + 1)) (lv' := [(2, .int (nI (j2 + 1))), (1, .int (nI (j1 + 1))), (0, .ref (ad 15 b))]) hx hb d0_dropEmptyLots_48 hl (k := 2) rfl (nI_1 j2) (by decide) rfl (fun ls hl => ?_)
        refine lv_goto (tgt := 4) hx hb d0_dropEmptyLots_51 (by decide) ?_
        exact ih hB (j1 + 1) (j2 + 1) (by (have aj1 := nI_toInt (n := j1) (by omega)); (have aj2 := nI_toInt (n := j2) (by omega)); (have kc_1 := nle_i c_1); (have l15 : (15 : Int32).toInt = 15 := rfl); (have l3 : (3 : Int32).toInt = 3 := rfl);  exact hbn) (by (have aj1 := nI_toInt (n := j1) (by omega)); (have aj2 := nI_toInt (n := j2) (by omega)); (have kc_1 := nle_i c_1); (have l15 : (15 : Int32).toInt = 15 := rfl); (have l3 : (3 : Int32).toInt = 3 := rfl);  exact hL) (by (have aj1 := nI_toInt (n := j1) (by omega)); (have aj2 := nI_toInt (n := j2) (by omega)); (have kc_1 := nle_i c_1); (have l15 : (15 : Int32).toInt = 15 := rfl); (have l3 : (3 : Int32).toInt = 3 := rfl);  omega) (by (have aj1 := nI_toInt (n := j1) (by omega)); (have aj2 := nI_toInt (n := j2) (by omega)); (have kc_1 := nle_i c_1); (have l15 : (15 : Int32).toInt = 15 := rfl); (have l3 : (3 : Int32).toInt = 3 := rfl);  omega) (lv_sub hl [2, 1, 0] rfl) (by rw [if_neg c_1, if_neg c_2] at hO; exact hO)
set_option maxRecDepth 100000 in
set_option maxHeartbeats 4000000 in
theorem k0_dropEmptyLots_0 {p : Program} {l : Launch} {e : Env} {s : State} {m : MethodId} {args : Array Value} {below : List Frame} {meth : Method} {c : Code} {D : va_G} {aC : Nat → ClassId} {ad : Nat → Nat → Nat} {X : Nat → Nat → Prop} {S A : sS} {G : sG} {H : Heap} {locs : List Loc} (C0 : s_C p s m args meth c b0_dropEmptyLots 3 R0 none D aC) (hB : s_B D aC ad X (s_N ad X) S A G s.heap H locs) (hX : xC X G) (b : Nat) (hbn : b < 64) (hL : 0 ≤ (S 15 b 3).toInt ∧ (S 15 b 3).toInt ≤ 6) {ls : Array Slot} (hl : lv_has ls 3 [(0, .ref (ad 15 b))]) {o : sS × sS} (hO : O0_dropEmptyLots S A G b = o) : W p l e (rmk 0) s m args below meth c H locs 0 0 (MQ below (s_Qv D aC ad X G o) args s 0 0 (s_N ad X)) (F0 m 0 ls []) := by
  obtain ⟨hx, hb, hml, hown, hw, hK, hr, hlocks⟩ := id C0
  unfold O0_dropEmptyLots at hO
  refine lv_iconst (v := 0) hx hb d0_dropEmptyLots_0 (by decide) ?_
  refine lv_istore_n (lv' := [(1, .int 0), (0, .ref (ad 15 b))]) hx hb d0_dropEmptyLots_1 rfl hl (by decide) rfl (fun ls hl => ?_)
  refine lv_iconst (v := 0) hx hb d0_dropEmptyLots_2 (by decide) ?_
  refine lv_istore_n (lv' := [(2, .int 0), (1, .int 0), (0, .ref (ad 15 b))]) hx hb d0_dropEmptyLots_3 rfl hl (by decide) rfl (fun ls hl => ?_)
  exact k0_dropEmptyLots_4 C0 hX b 7 hB 0 0 (by  exact hbn) (by  exact hL) (by  omega) (by  omega) (lv_sub hl [2, 1, 0] rfl) (hO)
theorem hd0_dropEmptyLots : y0_dropEmptyLots.cls = R0 ∧ y0_dropEmptyLots.cls ≠ "java/lang/invoke/MethodHandle" ∧ y0_dropEmptyLots.cls ≠ "java/lang/invoke/VarHandle" ∧ (parseMethodDescriptor y0_dropEmptyLots.desc).map (fun d => d.parameters.length) = some 0 := ⟨rfl, by decide, by decide, by decide +kernel⟩
theorem m0_dropEmptyLots {l : Launch} {D : va_G} {aC : Nat → ClassId} {ad : Nat → Nat → Nat} {X : Nat → Nat → Prop} {S A : sS} {G : sG} (hX : xC X G) (b : Nat) (hbn : b < 64) (hL : 0 ≤ (S 15 b 3).toInt ∧ (S 15 b 3).toInt ≤ 6) : Met l y0_dropEmptyLots (.code y0_dropEmptyLots b0_dropEmptyLots 3 none :: wall) (rmk 0) (s_Pc [.ref (ad 15 b)] D aC ad X S A G) (s_Qv D aC ad X G (O0_dropEmptyLots S A G b)) 0 0 (s_N ad X) :=
  s_met (by decide) rfl (Nat.le_of_ble_eq_true rfl) (fun p e s m args below meth c C0 hB ls hl => k0_dropEmptyLots_0 C0 hB hX b hbn hL hl rfl)

def O0_remove_54 (S A : sS) (G : sG) (b : Nat) (x1 : Int32) (x2 : Int32) (z3 : Int32) (z4 : Int32) : sS × sS := (S, A)
def O0_remove_5 (G : sG) (b : Nat) (x1 : Int32) (x2 : Int32) : Nat → sS → sS → Int32 → Nat → sS × sS
  | 0, S, A, _, _ => (S, A)
  | r + 1, S, A, z3, j4 => if S 15 b 3 ≤ nI j4 then O0_remove_54 (O0_dropEmptyLots S A G b).1 (O0_dropEmptyLots S A G b).2 G b x1 x2 z3 (nI j4) else O0_remove_5 G b x1 x2 r S (up3 A 17 b j4 ((A 17 b j4) - (if A 17 b j4 < z3 then A 17 b j4 else z3))) (z3 - (if A 17 b j4 < z3 then A 17 b j4 else z3)) (j4 + 1)
def O0_remove (S A : sS) (G : sG) (b : Nat) (x1 : Int32) (x2 : Int32) : sS × sS := O0_remove_5 G b x1 x2 7 S A x1 (x2.toNatClampNeg)
set_option maxRecDepth 100000 in
set_option maxHeartbeats 4000000 in
theorem k0_remove_54 {p : Program} {l : Launch} {e : Env} {s : State} {m : MethodId} {args : Array Value} {below : List Frame} {meth : Method} {c : Code} {D : va_G} {aC : Nat → ClassId} {ad : Nat → Nat → Nat} {X : Nat → Nat → Prop} {S A : sS} {G : sG} {H : Heap} {locs : List Loc} (C0 : s_C p s m args meth c b0_remove 6 R0 none D aC) (hB : s_B D aC ad X (s_N ad X) S A G s.heap H locs) (hX : xC X G) (b : Nat) (x1 : Int32) (x2 : Int32) (z3 : Int32) (z4 : Int32)  {ls : Array Slot} (hl : lv_has ls 6 [(0, .ref (ad 15 b)), (1, .int x1), (2, .int x2), (3, .int z3), (4, .int z4)]) {o : sS × sS} (hO : O0_remove_54 S A G b x1 x2 z3 z4 = o) : W p l e (rmk 1) s m args below meth c H locs 0 0 (MQ below (s_Qv D aC ad X G o) args s 0 0 (s_N ad X)) (F0 m 54 ls []) := by
  obtain ⟨hx, hb, hml, hown, hw, hK, hr, hlocks⟩ := id C0
  unfold O0_remove_54 at hO
  exact se_v C0 hB (hO) d0_remove_54
set_option maxRecDepth 100000 in
set_option maxHeartbeats 4000000 in
theorem k0_remove_5 {p : Program} {l : Launch} {e : Env} {s : State} {m : MethodId} {args : Array Value} {below : List Frame} {meth : Method} {c : Code} {D : va_G} {aC : Nat → ClassId} {ad : Nat → Nat → Nat} {X : Nat → Nat → Prop} {G : sG} (C0 : s_C p s m args meth c b0_remove 6 R0 none D aC) (hX : xC X G) (b : Nat) (x1 : Int32) (x2 : Int32) : ∀ (r : Nat) {S A : sS} {H : Heap} {locs : List Loc} (hB : s_B D aC ad X (s_N ad X) S A G s.heap H locs) (z3 : Int32) (j4 : Nat) (hbn : b < 64) (hL : 0 ≤ (S 15 b 3).toInt ∧ (S 15 b 3).toInt ≤ 6) (hj : j4 ≤ 6) (hr3 : 6 < j4 + r) {ls : Array Slot} (hl : lv_has ls 6 [(0, .ref (ad 15 b)), (1, .int x1), (2, .int x2), (3, .int z3), (4, .int (nI j4))]) {o : sS × sS} (hO : O0_remove_5 G b x1 x2 r S A z3 j4 = o), W p l e (rmk 1) s m args below meth c H locs 0 0 (MQ below (s_Qv D aC ad X G o) args s 0 0 (s_N ad X)) (F0 m 5 ls []) := by
  obtain ⟨hx, hb, hml, hown, hw, hK, hr, hlocks⟩ := id C0
  intro r
  induction r with
  | zero =>
    intro S A H locs hB z3 j4 hbn hL hj hr3 ls hl o hO
    exact absurd hr3 (by omega)
  | succ r ih =>
    intro S A H locs hB z3 j4 hbn hL hj hr3 ls hl o hO
    rw [O0_remove_5] at hO
    refine lv_iload hx hb d0_remove_5 (lv_at hl 4 rfl) ?_
    refine lv_aload_n hx hb d0_remove_7 rfl (lv_at hl 0 rfl) ?_
    refine sr_get (v := .int (S 15 b 3)) hx hb hw hown hK hB 3 (hX.2.2.1 b hbn).1 cf_15 us0 (by decide) fl_0_22 (rfl) d0_remove_8 ?_
    refine lv_icmp_ge (tgt := 50) hx hb d0_remove_11 (by decide) (fun c_1 => ?_) (fun c_1 => ?_)
    · refine lv_aload_n hx hb d0_remove_50 rfl (lv_at hl 0 rfl) ?_
      refine sr_vv C0 hB (m0_dropEmptyLots hX b (by (have aj4 := nI_toInt (n := j4) (by omega)); (have kc_1 := le_i c_1); (have l15 : (15 : Int32).toInt = 15 := rfl); (have l3 : (3 : Int32).toInt = 3 := rfl);  first | assumption | omega) (by (have aj4 := nI_toInt (n := j4) (by omega)); (have kc_1 := le_i c_1); (have l15 : (15 : Int32).toInt = 15 := rfl); (have l3 : (3 : Int32).toInt = 3 := rfl);  first | assumption | omega)) (hX.2.2.1 b hbn).1 cf_15 ml_0_45 im_0_dropEmptyLots se_0_dropEmptyLots in_0 cd_0_dropEmptyLots hd0_dropEmptyLots ⟨⟨rfl, rfl⟩, by decide, by decide⟩ ⟨Nat.zero_le _, Nat.zero_le _⟩ hl.1 rfl (Nat.le_of_ble_eq_true rfl) d0_remove_51 (fun H locs hB => ?_)
      exact k0_remove_54 C0 hB hX b x1 x2 z3 (nI j4)  (lv_sub hl [0, 1, 2, 3, 4] rfl) (by rw [if_pos c_1] at hO; exact hO)
    · refine lv_iload_n hx hb d0_remove_14 rfl (lv_at hl 3 rfl) ?_
      refine lv_aload_n hx hb d0_remove_15 rfl (lv_at hl 0 rfl) ?_
      refine sr_get (v := .ref (ad 17 b)) hx hb hw hown hK hB 1 (hX.2.2.1 b hbn).1 cf_15 us0 (by decide) fl_0_15 (rfl) d0_remove_16 ?_
      refine lv_iload hx hb d0_remove_19 (lv_at hl 4 rfl) ?_
      refine sr_iald (v := A 17 b j4) hx hb hK hB (hX.2.2.1 b hbn).2.2 rfl rfl (vp_in_nI (show j4 < 6 by (have aj4 := nI_toInt (n := j4) (by omega)); (have kc_1 := nle_i c_1); (have l15 : (15 : Int32).toInt = 15 := rfl); (have l3 : (3 : Int32).toInt = 3 := rfl);  omega) (by decide)) d0_remove_21 (s_cl (by omega)) ?_
      refine va_mmin hx hb (by rw [hml]; exact hl.1.symm) hown (hw _ ml_0_39) (hw _ st_M_min) (hw _ in_M) (hw _ cd_M_min) (by decide) (Nat.le_of_ble_eq_true rfl) (Nat.zero_le _) (Nat.zero_le _) d0_remove_22 ?_
      refine lv_istore (lv' := [(5, .int (if A 17 b j4 < z3 then A 17 b j4 else z3)), (0, .ref (ad 15 b)), (1, .int x1), (2, .int x2), (3, .int z3), (4, .int (nI j4))]) hx hb d0_remove_25 hl (by decide) rfl (fun ls hl => ?_)
      refine lv_aload_n hx hb d0_remove_27 rfl (lv_at hl 1 rfl) ?_
      refine sr_get (v := .ref (ad 17 b)) hx hb hw hown hK hB 1 (hX.2.2.1 b hbn).1 cf_15 us0 (by decide) fl_0_15 (rfl) d0_remove_28 ?_
      refine lv_iload hx hb d0_remove_31 (lv_at hl 5 rfl) ?_
      refine lv_dup2_11 hx hb d0_remove_33 rfl rfl ?_
      refine sr_iald (v := A 17 b j4) hx hb hK hB (hX.2.2.1 b hbn).2.2 rfl rfl (vp_in_nI (show j4 < 6 by (have aj4 := nI_toInt (n := j4) (by omega)); (have kc_1 := nle_i c_1); (have l15 : (15 : Int32).toInt = 15 := rfl); (have l3 : (3 : Int32).toInt = 3 := rfl);  omega) (by decide)) d0_remove_34 (s_cl (by omega)) ?_
      refine lv_iload hx hb d0_remove_35 (lv_at hl 0 rfl) ?_
      refine lv_isub hx hb d0_remove_37 ?_
      refine sr_iast hx hb hK hB (hX.2.2.1 b hbn).2.2 rfl rfl (vp_in_nI (show j4 < 6 by (have aj4 := nI_toInt (n := j4) (by omega)); (have kc_1 := nle_i c_1); (have l15 : (15 : Int32).toInt = 15 := rfl); (have l3 : (3 : Int32).toInt = 3 := rfl);  omega) (by decide)) d0_remove_38 (fun H locs hB => ?_)
      rw [nI_clamp (show j4 < 2 ^ 31 by omega)] at hB
      refine lv_iload_n hx hb d0_remove_39 rfl (lv_at hl 4 rfl) ?_
      refine lv_iload hx hb d0_remove_40 (lv_at hl 0 rfl) ?_
      refine lv_isub hx hb d0_remove_42 ?_
      refine lv_istore_n (lv' := [(3, .int (z3 - (if A 17 b j4 < z3 then A 17 b j4 else z3))), (5, .int (if A 17 b j4 < z3 then A 17 b j4 else z3)), (0, .ref (ad 15 b)), (1, .int x1), (2, .int x2), (4, .int (nI j4))]) hx hb d0_remove_43 rfl hl (by decide) rfl (fun ls hl => ?_)
      refine lv_iinc (v := nI (j4 + 1)) (lv' := [(4, .int (nI (j4 + 1))), (3, .int (z3 - (if A 17 b j4 < z3 then A 17 b j4 else z3))), (5, .int (if A 17 b j4 < z3 then A 17 b j4 else z3)), (0, .ref (ad 15 b)), (1, .int x1), (2, .int x2)]) hx hb d0_remove_44 hl (k := 5) rfl (nI_1 j4) (by decide) rfl (fun ls hl => ?_)
      refine lv_goto (tgt := 5) hx hb d0_remove_47 (by decide) ?_
      exact ih hB (z3 - (if A 17 b j4 < z3 then A 17 b j4 else z3)) (j4 + 1) (by (have aj4 := nI_toInt (n := j4) (by omega)); (have kc_1 := nle_i c_1); (have l15 : (15 : Int32).toInt = 15 := rfl); (have l3 : (3 : Int32).toInt = 3 := rfl);  exact hbn) (by (have aj4 := nI_toInt (n := j4) (by omega)); (have kc_1 := nle_i c_1); (have l15 : (15 : Int32).toInt = 15 := rfl); (have l3 : (3 : Int32).toInt = 3 := rfl);  exact hL) (by (have aj4 := nI_toInt (n := j4) (by omega)); (have kc_1 := nle_i c_1); (have l15 : (15 : Int32).toInt = 15 := rfl); (have l3 : (3 : Int32).toInt = 3 := rfl);  omega) (by (have aj4 := nI_toInt (n := j4) (by omega)); (have kc_1 := nle_i c_1); (have l15 : (15 : Int32).toInt = 15 := rfl); (have l3 : (3 : Int32).toInt = 3 := rfl);  omega) (lv_sub hl [3, 4, 5, 1, 0] rfl) (by rw [if_neg c_1] at hO; exact hO)
set_option maxRecDepth 100000 in
set_option maxHeartbeats 4000000 in
theorem k0_remove_0 {p : Program} {l : Launch} {e : Env} {s : State} {m : MethodId} {args : Array Value} {below : List Frame} {meth : Method} {c : Code} {D : va_G} {aC : Nat → ClassId} {ad : Nat → Nat → Nat} {X : Nat → Nat → Prop} {S A : sS} {G : sG} {H : Heap} {locs : List Loc} (C0 : s_C p s m args meth c b0_remove 6 R0 none D aC) (hB : s_B D aC ad X (s_N ad X) S A G s.heap H locs) (hX : xC X G) (b : Nat) (x1 : Int32) (x2 : Int32) (hbn : b < 64) (hL : 0 ≤ (S 15 b 3).toInt ∧ (S 15 b 3).toInt ≤ 6) (hfi : 0 ≤ x2.toInt ∧ x2.toInt ≤ 6) {ls : Array Slot} (hl : lv_has ls 6 [(0, .ref (ad 15 b)), (1, .int x1), (2, .int x2)]) {o : sS × sS} (hO : O0_remove S A G b x1 x2 = o) : W p l e (rmk 1) s m args below meth c H locs 0 0 (MQ below (s_Qv D aC ad X G o) args s 0 0 (s_N ad X)) (F0 m 0 ls []) := by
  obtain ⟨hx, hb, hml, hown, hw, hK, hr, hlocks⟩ := id C0
  unfold O0_remove at hO
  refine lv_iload_n hx hb d0_remove_0 rfl (lv_at hl 1 rfl) ?_
  refine lv_istore_n (lv' := [(3, .int x1), (0, .ref (ad 15 b)), (1, .int x1), (2, .int x2)]) hx hb d0_remove_1 rfl hl (by decide) rfl (fun ls hl => ?_)
  refine lv_iload_n hx hb d0_remove_2 rfl (lv_at hl 3 rfl) ?_
  refine sr_top (y := nI (x2.toNatClampNeg)) (nI_cl hfi.1) ?_
  refine lv_istore (lv' := [(4, .int (nI (x2.toNatClampNeg))), (3, .int x1), (0, .ref (ad 15 b)), (1, .int x1), (2, .int x2)]) hx hb d0_remove_3 hl (by decide) rfl (fun ls hl => ?_)
  exact k0_remove_5 C0 hX b x1 x2 7 hB x1 (x2.toNatClampNeg) (by  exact hbn) (by  exact hL) (by  (have hc := cl_i hfi.1); omega) (by  (have hc := cl_i hfi.1); omega) (lv_sub hl [2, 3, 4, 1, 0] rfl) (hO)
theorem hd0_remove : y0_remove.cls = R0 ∧ y0_remove.cls ≠ "java/lang/invoke/MethodHandle" ∧ y0_remove.cls ≠ "java/lang/invoke/VarHandle" ∧ (parseMethodDescriptor y0_remove.desc).map (fun d => d.parameters.length) = some 2 := ⟨rfl, by decide, by decide, by decide +kernel⟩
theorem m0_remove {l : Launch} {D : va_G} {aC : Nat → ClassId} {ad : Nat → Nat → Nat} {X : Nat → Nat → Prop} {S A : sS} {G : sG} (hX : xC X G) (b : Nat) (x1 : Int32) (x2 : Int32) (hbn : b < 64) (hL : 0 ≤ (S 15 b 3).toInt ∧ (S 15 b 3).toInt ≤ 6) (hfi : 0 ≤ x2.toInt ∧ x2.toInt ≤ 6) : Met l y0_remove (.code y0_remove b0_remove 6 none :: wall) (rmk 1) (s_Pc [.ref (ad 15 b), .int x1, .int x2] D aC ad X S A G) (s_Qv D aC ad X G (O0_remove S A G b x1 x2)) 0 0 (s_N ad X) :=
  s_met (by decide) rfl (Nat.le_of_ble_eq_true rfl) (fun p e s m args below meth c C0 hB ls hl => k0_remove_0 C0 hB hX b x1 x2 hbn hL hfi hl rfl)

def O0_correctTo_58 (S A : sS) (G : sG) (b : Nat) (x1 : Int32) (x2 : Int32) : sS × sS := (S, A)
def O0_correctTo_32 (S A : sS) (G : sG) (b : Nat) (x1 : Int32) (x2 : Int32) : sS × sS := (S, A)
def O0_correctTo (S A : sS) (G : sG) (b : Nat) (x1 : Int32) (x2 : Int32) : sS × sS := if 0 ≤ x1 - (V0_book S A G b) then if x1 - (V0_book S A G b) ≤ 0 then ((up3 (up3 S 15 b 4 (x1 - (V0_book S A G b))) 15 b 5 1), A) else if S 15 b 3 = 0 then O0_correctTo_58 (O0_addLot (up3 (up3 S 15 b 4 (x1 - (V0_book S A G b))) 15 b 5 1) A G b (x1 - (V0_book S A G b)) x2).1 (O0_addLot (up3 (up3 S 15 b 4 (x1 - (V0_book S A G b))) 15 b 5 1) A G b (x1 - (V0_book S A G b)) x2).2 G b x1 x2 else ((up3 (up3 S 15 b 4 (x1 - (V0_book S A G b))) 15 b 5 1), (up3 A 17 b (((S 15 b 3) - 1).toNatClampNeg) ((A 17 b (((S 15 b 3) - 1).toNatClampNeg)) + (x1 - (V0_book S A G b))))) else O0_correctTo_32 (O0_remove (up3 (up3 S 15 b 4 (x1 - (V0_book S A G b))) 15 b 5 1) A G b (-(x1 - (V0_book S A G b))) 0).1 (O0_remove (up3 (up3 S 15 b 4 (x1 - (V0_book S A G b))) 15 b 5 1) A G b (-(x1 - (V0_book S A G b))) 0).2 G b x1 x2
set_option maxRecDepth 100000 in
set_option maxHeartbeats 4000000 in
theorem k0_correctTo_58 {p : Program} {l : Launch} {e : Env} {s : State} {m : MethodId} {args : Array Value} {below : List Frame} {meth : Method} {c : Code} {D : va_G} {aC : Nat → ClassId} {ad : Nat → Nat → Nat} {X : Nat → Nat → Prop} {S A : sS} {G : sG} {H : Heap} {locs : List Loc} (C0 : s_C p s m args meth c b0_correctTo 3 R0 none D aC) (hB : s_B D aC ad X (s_N ad X) S A G s.heap H locs) (hX : xC X G) (b : Nat) (x1 : Int32) (x2 : Int32)  {ls : Array Slot} (hl : lv_has ls 3 [(0, .ref (ad 15 b)), (1, .int x1), (2, .int x2)]) {o : sS × sS} (hO : O0_correctTo_58 S A G b x1 x2 = o) : W p l e (rmk 2) s m args below meth c H locs 0 0 (MQ below (s_Qv D aC ad X G o) args s 0 0 (s_N ad X)) (F0 m 58 ls []) := by
  obtain ⟨hx, hb, hml, hown, hw, hK, hr, hlocks⟩ := id C0
  unfold O0_correctTo_58 at hO
  refine lv_goto (tgt := 86) hx hb d0_correctTo_58 (by decide) ?_
  exact se_v C0 hB (hO) d0_correctTo_86
set_option maxRecDepth 100000 in
set_option maxHeartbeats 4000000 in
theorem k0_correctTo_32 {p : Program} {l : Launch} {e : Env} {s : State} {m : MethodId} {args : Array Value} {below : List Frame} {meth : Method} {c : Code} {D : va_G} {aC : Nat → ClassId} {ad : Nat → Nat → Nat} {X : Nat → Nat → Prop} {S A : sS} {G : sG} {H : Heap} {locs : List Loc} (C0 : s_C p s m args meth c b0_correctTo 3 R0 none D aC) (hB : s_B D aC ad X (s_N ad X) S A G s.heap H locs) (hX : xC X G) (b : Nat) (x1 : Int32) (x2 : Int32)  {ls : Array Slot} (hl : lv_has ls 3 [(0, .ref (ad 15 b)), (1, .int x1), (2, .int x2)]) {o : sS × sS} (hO : O0_correctTo_32 S A G b x1 x2 = o) : W p l e (rmk 2) s m args below meth c H locs 0 0 (MQ below (s_Qv D aC ad X G o) args s 0 0 (s_N ad X)) (F0 m 32 ls []) := by
  obtain ⟨hx, hb, hml, hown, hw, hK, hr, hlocks⟩ := id C0
  unfold O0_correctTo_32 at hO
  refine lv_goto (tgt := 86) hx hb d0_correctTo_32 (by decide) ?_
  exact se_v C0 hB (hO) d0_correctTo_86
set_option maxRecDepth 100000 in
set_option maxHeartbeats 4000000 in
theorem k0_correctTo_0 {p : Program} {l : Launch} {e : Env} {s : State} {m : MethodId} {args : Array Value} {below : List Frame} {meth : Method} {c : Code} {D : va_G} {aC : Nat → ClassId} {ad : Nat → Nat → Nat} {X : Nat → Nat → Prop} {S A : sS} {G : sG} {H : Heap} {locs : List Loc} (C0 : s_C p s m args meth c b0_correctTo 3 R0 none D aC) (hB : s_B D aC ad X (s_N ad X) S A G s.heap H locs) (hX : xC X G) (b : Nat) (x1 : Int32) (x2 : Int32) (hbn : b < 64) (hL : 0 ≤ (S 15 b 3).toInt ∧ (S 15 b 3).toInt ≤ 6) {ls : Array Slot} (hl : lv_has ls 3 [(0, .ref (ad 15 b)), (1, .int x1), (2, .int x2)]) {o : sS × sS} (hO : O0_correctTo S A G b x1 x2 = o) : W p l e (rmk 2) s m args below meth c H locs 0 0 (MQ below (s_Qv D aC ad X G o) args s 0 0 (s_N ad X)) (F0 m 0 ls []) := by
  obtain ⟨hx, hb, hml, hown, hw, hK, hr, hlocks⟩ := id C0
  unfold O0_correctTo at hO
  refine lv_aload_n hx hb d0_correctTo_0 rfl (lv_at hl 0 rfl) ?_
  refine lv_iload_n hx hb d0_correctTo_1 rfl (lv_at hl 1 rfl) ?_
  refine lv_aload_n hx hb d0_correctTo_2 rfl (lv_at hl 0 rfl) ?_
  refine sr_vp C0 hB (m0_book hX b (by  first | assumption | omega) (by  first | assumption | omega)) (hX.2.2.1 b hbn).1 cf_15 ml_0_48 im_0_book se_0_book in_0 cd_0_book hd0_book ⟨⟨rfl, rfl⟩, by decide, by decide⟩ ⟨Nat.zero_le _, Nat.zero_le _⟩ hl.1 rfl (Nat.le_of_ble_eq_true rfl) d0_correctTo_3 ?_
  refine lv_isub hx hb d0_correctTo_6 ?_
  refine sr_put hx hb hw hown hK hB 4 (hX.2.2.1 b hbn).1 cf_15 us0 tk0 nm0 (by decide) fl_0_25 rfl rfl rfl rfl d0_correctTo_7 (fun H locs hB => ?_)
  refine lv_aload_n hx hb d0_correctTo_10 rfl (lv_at hl 0 rfl) ?_
  refine lv_iconst (v := 1) hx hb d0_correctTo_11 (by decide) ?_
  refine sr_put hx hb hw hown hK hB 5 (hX.2.2.1 b hbn).1 cf_15 us0 tk0 nm0 (by decide) fl_0_28 rfl rfl rfl rfl d0_correctTo_12 (fun H locs hB => ?_)
  refine lv_aload_n hx hb d0_correctTo_15 rfl (lv_at hl 0 rfl) ?_
  refine sr_get (v := .int (x1 - (V0_book S A G b))) hx hb hw hown hK hB 4 (hX.2.2.1 b hbn).1 cf_15 us0 (by decide) fl_0_25 (congrArg Value.int (by simp [up3])) d0_correctTo_16 ?_
  refine lv_if_ge (tgt := 35) hx hb d0_correctTo_19 (by decide) (fun c_1 => ?_) (fun c_1 => ?_)
  · refine lv_aload_n hx hb d0_correctTo_35 rfl (lv_at hl 0 rfl) ?_
    refine sr_get (v := .int (x1 - (V0_book S A G b))) hx hb hw hown hK hB 4 (hX.2.2.1 b hbn).1 cf_15 us0 (by decide) fl_0_25 (congrArg Value.int (by simp [up3])) d0_correctTo_36 ?_
    refine lv_if_le (tgt := 61) hx hb d0_correctTo_39 (by decide) (fun c_2 => ?_) (fun c_2 => ?_)
    · refine lv_aload_n hx hb d0_correctTo_61 rfl (lv_at hl 0 rfl) ?_
      refine sr_get (v := .int (x1 - (V0_book S A G b))) hx hb hw hown hK hB 4 (hX.2.2.1 b hbn).1 cf_15 us0 (by decide) fl_0_25 (congrArg Value.int (by simp [up3])) d0_correctTo_62 ?_
      refine lv_if_le (tgt := 86) hx hb d0_correctTo_65 (by decide) (fun _ => ?_) (fun c => absurd c_2 c)
      exact se_v C0 hB (by rw [if_pos c_1, if_pos c_2] at hO; exact hO) d0_correctTo_86
    · refine lv_aload_n hx hb d0_correctTo_42 rfl (lv_at hl 0 rfl) ?_
      refine sr_get (v := .int (S 15 b 3)) hx hb hw hown hK hB 3 (hX.2.2.1 b hbn).1 cf_15 us0 (by decide) fl_0_22 (rfl) d0_correctTo_43 ?_
      refine lv_if_ne (tgt := 61) hx hb d0_correctTo_46 (by decide) (fun c_4 => ?_) (fun c_4 => ?_)
      · refine lv_aload_n hx hb d0_correctTo_61 rfl (lv_at hl 0 rfl) ?_
        refine sr_get (v := .int (x1 - (V0_book S A G b))) hx hb hw hown hK hB 4 (hX.2.2.1 b hbn).1 cf_15 us0 (by decide) fl_0_25 (congrArg Value.int (by simp [up3])) d0_correctTo_62 ?_
        refine lv_if_le (tgt := 86) hx hb d0_correctTo_65 (by decide) (fun c => absurd c c_2) (fun _ => ?_)
        refine lv_aload_n hx hb d0_correctTo_68 rfl (lv_at hl 0 rfl) ?_
        refine sr_get (v := .ref (ad 17 b)) hx hb hw hown hK hB 1 (hX.2.2.1 b hbn).1 cf_15 us0 (by decide) fl_0_15 (rfl) d0_correctTo_69 ?_
        refine lv_aload_n hx hb d0_correctTo_72 rfl (lv_at hl 0 rfl) ?_
        refine sr_get (v := .int (S 15 b 3)) hx hb hw hown hK hB 3 (hX.2.2.1 b hbn).1 cf_15 us0 (by decide) fl_0_22 (rfl) d0_correctTo_73 ?_
        refine lv_iconst (v := 1) hx hb d0_correctTo_76 (by decide) ?_
        refine lv_isub hx hb d0_correctTo_77 ?_
        refine lv_dup2_11 hx hb d0_correctTo_78 rfl rfl ?_
        refine sr_iald (v := A 17 b (((S 15 b 3) - 1).toNatClampNeg)) hx hb hK hB (hX.2.2.1 b hbn).2.2 rfl rfl (by have q := ne_i (by assumption : ¬ S 15 b 3 = 0); have l0 : (0 : Int32).toInt = 0 := rfl; have a := sub1_i (x := S 15 b 3) (by omega); exact vp_in_iff.mpr (show _ ∧ _ < ((6 : Nat) : Int) by omega)) d0_correctTo_79 (rfl) ?_
        refine lv_aload_n hx hb d0_correctTo_80 rfl (lv_at hl 0 rfl) ?_
        refine sr_get (v := .int (x1 - (V0_book S A G b))) hx hb hw hown hK hB 4 (hX.2.2.1 b hbn).1 cf_15 us0 (by decide) fl_0_25 (congrArg Value.int (by simp [up3])) d0_correctTo_81 ?_
        refine lv_iadd hx hb d0_correctTo_84 ?_
        refine sr_iast hx hb hK hB (hX.2.2.1 b hbn).2.2 rfl rfl (by have q := ne_i (by assumption : ¬ S 15 b 3 = 0); have l0 : (0 : Int32).toInt = 0 := rfl; have a := sub1_i (x := S 15 b 3) (by omega); exact vp_in_iff.mpr (show _ ∧ _ < ((6 : Nat) : Int) by omega)) d0_correctTo_85 (fun H locs hB => ?_)
        exact se_v C0 hB (by rw [if_pos c_1, if_neg c_2, if_neg c_4] at hO; exact hO) d0_correctTo_86
      · refine lv_aload_n hx hb d0_correctTo_49 rfl (lv_at hl 0 rfl) ?_
        refine lv_aload_n hx hb d0_correctTo_50 rfl (lv_at hl 0 rfl) ?_
        refine sr_get (v := .int (x1 - (V0_book S A G b))) hx hb hw hown hK hB 4 (hX.2.2.1 b hbn).1 cf_15 us0 (by decide) fl_0_25 (congrArg Value.int (by simp [up3])) d0_correctTo_51 ?_
        refine lv_iload_n hx hb d0_correctTo_54 rfl (lv_at hl 2 rfl) ?_
        refine sr_vv C0 hB (m0_addLot hX b (x1 - (V0_book S A G b)) x2 (by (have kc_1 := le_i c_1); (have kc_2 := nle_i c_2); (have kc_4 := congrArg Int32.toInt c_4); (have l0 : (0 : Int32).toInt = 0 := rfl); (have l15 : (15 : Int32).toInt = 15 := rfl); (have l3 : (3 : Int32).toInt = 3 := rfl);  first | assumption | omega) (hL)) (hX.2.2.1 b hbn).1 cf_15 ml_0_56 im_0_addLot se_0_addLot in_0 cd_0_addLot hd0_addLot ⟨⟨rfl, rfl⟩, by decide, by decide⟩ ⟨Nat.zero_le _, Nat.zero_le _⟩ hl.1 rfl (Nat.le_of_ble_eq_true rfl) d0_correctTo_55 (fun H locs hB => ?_)
        exact k0_correctTo_58 C0 hB hX b x1 x2  (lv_sub hl [0, 1, 2] rfl) (by rw [if_pos c_1, if_neg c_2, if_pos c_4] at hO; exact hO)
  · refine lv_aload_n hx hb d0_correctTo_22 rfl (lv_at hl 0 rfl) ?_
    refine lv_aload_n hx hb d0_correctTo_23 rfl (lv_at hl 0 rfl) ?_
    refine sr_get (v := .int (x1 - (V0_book S A G b))) hx hb hw hown hK hB 4 (hX.2.2.1 b hbn).1 cf_15 us0 (by decide) fl_0_25 (congrArg Value.int (by simp [up3])) d0_correctTo_24 ?_
    refine lv_ineg hx hb d0_correctTo_27 ?_
    refine lv_iconst (v := 0) hx hb d0_correctTo_28 (by decide) ?_
    refine sr_vv C0 hB (m0_remove hX b (-(x1 - (V0_book S A G b))) 0 (by (have kc_1 := nle_i c_1); (have l0 : (0 : Int32).toInt = 0 := rfl);  first | assumption | omega) (hL) (by decide)) (hX.2.2.1 b hbn).1 cf_15 ml_0_52 im_0_remove se_0_remove in_0 cd_0_remove hd0_remove ⟨⟨rfl, rfl⟩, by decide, by decide⟩ ⟨Nat.zero_le _, Nat.zero_le _⟩ hl.1 rfl (Nat.le_of_ble_eq_true rfl) d0_correctTo_29 (fun H locs hB => ?_)
    exact k0_correctTo_32 C0 hB hX b x1 x2  (lv_sub hl [0, 1, 2] rfl) (by rw [if_neg c_1] at hO; exact hO)
theorem hd0_correctTo : y0_correctTo.cls = R0 ∧ y0_correctTo.cls ≠ "java/lang/invoke/MethodHandle" ∧ y0_correctTo.cls ≠ "java/lang/invoke/VarHandle" ∧ (parseMethodDescriptor y0_correctTo.desc).map (fun d => d.parameters.length) = some 2 := ⟨rfl, by decide, by decide, by decide +kernel⟩
theorem m0_correctTo {l : Launch} {D : va_G} {aC : Nat → ClassId} {ad : Nat → Nat → Nat} {X : Nat → Nat → Prop} {S A : sS} {G : sG} (hX : xC X G) (b : Nat) (x1 : Int32) (x2 : Int32) (hbn : b < 64) (hL : 0 ≤ (S 15 b 3).toInt ∧ (S 15 b 3).toInt ≤ 6) : Met l y0_correctTo (.code y0_correctTo b0_correctTo 3 none :: wall) (rmk 2) (s_Pc [.ref (ad 15 b), .int x1, .int x2] D aC ad X S A G) (s_Qv D aC ad X G (O0_correctTo S A G b x1 x2)) 0 0 (s_N ad X) :=
  s_met (by decide) rfl (Nat.le_of_ble_eq_true rfl) (fun p e s m args below meth c C0 hB ls hl => k0_correctTo_0 C0 hB hX b x1 x2 hbn hL hl rfl)
