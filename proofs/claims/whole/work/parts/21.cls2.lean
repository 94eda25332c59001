def V2_wholeCopies (S A : sS) (G : sG)  : Int32 := if A 9 0 0 = 0 then if A 9 0 1 = 0 then 2 else 1 else if A 9 0 1 = 0 then 1 else 0
set_option maxRecDepth 100000 in
set_option maxHeartbeats 4000000 in
theorem k2_wholeCopies_0 {p : Program} {l : Launch} {e : Env} {s : State} {m : MethodId} {args : Array Value} {below : List Frame} {meth : Method} {c : Code} {D : va_G} {aC : Nat → ClassId} {ad : Nat → Nat → Nat} {X : Nat → Nat → Prop} {S A : sS} {G : sG} (C0 : s_C p s m args meth c b2_wholeCopies 1 R2 (some .int) D aC) (hB : s_B D aC ad X (s_N ad X) S A G s.heap s.heap []) (hX : xC X G)   {ls : Array Slot} (hl : lv_has ls 1 [(0, .ref (ad 6 0))]) {o : Int32} (hO : V2_wholeCopies S A G  = o) : W p l e (rmk 0) s m args below meth c s.heap [] 0 0 (MQ below (s_Qp o) args s 0 0 (fun _ => False)) (F0 m 0 ls []) := by
  obtain ⟨hx, hb, hml, hown, hw, hK, hr, hlocks⟩ := id C0
  unfold V2_wholeCopies at hO
  refine lv_aload_n hx hb d2_wholeCopies_0 rfl (lv_at hl 0 rfl) ?_
  refine sr_get (v := .ref (ad 9 0)) hx hb hw hown hK hB 0 (hX.1 6 (by decide)) cf_6 us2 (by decide) fl_2_11 (rfl) d2_wholeCopies_1 ?_
  refine lv_iconst (v := 0) hx hb d2_wholeCopies_4 (by decide) ?_
  refine sr_zald (v := A 9 0 0) hx hb hK hB (hX.1 9 (by decide)) rfl rfl (by (refine vp_in_iff.mpr ?_); decide) d2_wholeCopies_5 (rfl) ?_
  refine lv_if_eq (tgt := 13) hx hb d2_wholeCopies_6 (by decide) (fun c_1 => ?_) (fun c_1 => ?_)
  · refine lv_iconst (v := 1) hx hb d2_wholeCopies_13 (by decide) ?_
    refine lv_aload_n hx hb d2_wholeCopies_14 rfl (lv_at hl 0 rfl) ?_
    refine sr_get (v := .ref (ad 9 0)) hx hb hw hown hK hB 0 (hX.1 6 (by decide)) cf_6 us2 (by decide) fl_2_11 (rfl) d2_wholeCopies_15 ?_
    refine lv_iconst (v := 1) hx hb d2_wholeCopies_18 (by decide) ?_
    refine sr_zald (v := A 9 0 1) hx hb hK hB (hX.1 9 (by decide)) rfl rfl (by (refine vp_in_iff.mpr ?_); decide) d2_wholeCopies_19 (rfl) ?_
    refine lv_if_eq (tgt := 27) hx hb d2_wholeCopies_20 (by decide) (fun c_2 => ?_) (fun c_2 => ?_)
    · refine lv_iconst (v := 1) hx hb d2_wholeCopies_27 (by decide) ?_
      refine lv_iadd hx hb d2_wholeCopies_28 ?_
      refine sr_top (y := 2) (by decide) ?_
      exact se_pi C0 (by rw [if_pos c_1, if_pos c_2] at hO; exact hO) d2_wholeCopies_29
    · refine lv_iconst (v := 0) hx hb d2_wholeCopies_23 (by decide) ?_
      refine lv_goto (tgt := 28) hx hb d2_wholeCopies_24 (by decide) ?_
      refine lv_iadd hx hb d2_wholeCopies_28 ?_
      refine sr_top (y := 1) (by decide) ?_
      exact se_pi C0 (by rw [if_pos c_1, if_neg c_2] at hO; exact hO) d2_wholeCopies_29
  · refine lv_iconst (v := 0) hx hb d2_wholeCopies_9 (by decide) ?_
    refine lv_goto (tgt := 14) hx hb d2_wholeCopies_10 (by decide) ?_
    refine lv_aload_n hx hb d2_wholeCopies_14 rfl (lv_at hl 0 rfl) ?_
    refine sr_get (v := .ref (ad 9 0)) hx hb hw hown hK hB 0 (hX.1 6 (by decide)) cf_6 us2 (by decide) fl_2_11 (rfl) d2_wholeCopies_15 ?_
    refine lv_iconst (v := 1) hx hb d2_wholeCopies_18 (by decide) ?_
    refine sr_zald (v := A 9 0 1) hx hb hK hB (hX.1 9 (by decide)) rfl rfl (by (refine vp_in_iff.mpr ?_); decide) d2_wholeCopies_19 (rfl) ?_
    refine lv_if_eq (tgt := 27) hx hb d2_wholeCopies_20 (by decide) (fun c_3 => ?_) (fun c_3 => ?_)
    · refine lv_iconst (v := 1) hx hb d2_wholeCopies_27 (by decide) ?_
      refine lv_iadd hx hb d2_wholeCopies_28 ?_
      refine sr_top (y := 1) (by decide) ?_
      exact se_pi C0 (by rw [if_neg c_1, if_pos c_3] at hO; exact hO) d2_wholeCopies_29
    · refine lv_iconst (v := 0) hx hb d2_wholeCopies_23 (by decide) ?_
      refine lv_goto (tgt := 28) hx hb d2_wholeCopies_24 (by decide) ?_
      refine lv_iadd hx hb d2_wholeCopies_28 ?_
      refine sr_top (y := 0) (by decide) ?_
      exact se_pi C0 (by rw [if_neg c_1, if_neg c_3] at hO; exact hO) d2_wholeCopies_29
theorem hd2_wholeCopies : y2_wholeCopies.cls = R2 ∧ y2_wholeCopies.cls ≠ "java/lang/invoke/MethodHandle" ∧ y2_wholeCopies.cls ≠ "java/lang/invoke/VarHandle" ∧ (parseMethodDescriptor y2_wholeCopies.desc).map (fun d => d.parameters.length) = some 0 := ⟨rfl, by decide, by decide, by decide +kernel⟩
theorem m2_wholeCopies {l : Launch} {D : va_G} {aC : Nat → ClassId} {ad : Nat → Nat → Nat} {X : Nat → Nat → Prop} {S A : sS} {G : sG} (hX : xC X G)   : Met l y2_wholeCopies (.code y2_wholeCopies b2_wholeCopies 1 (some .int) :: wall) (rmk 0) (s_Pc [.ref (ad 6 0)] D aC ad X S A G) (s_Qp (V2_wholeCopies S A G )) 0 0 (fun _ => False) :=
  s_met (by decide) rfl (Nat.le_of_ble_eq_true rfl) (fun p e s m args below meth c C0 hB ls hl => k2_wholeCopies_0 C0 hB hX   hl rfl)

def V2_change (S A : sS) (G : sG) (x0 : Int32) (x1 : Int32) : Int32 := if x0 = 2 then -x1 else if x0 = 4 then -x1 else x1
set_option maxRecDepth 100000 in
set_option maxHeartbeats 4000000 in
theorem k2_change_0 {p : Program} {l : Launch} {e : Env} {s : State} {m : MethodId} {args : Array Value} {below : List Frame} {meth : Method} {c : Code} {D : va_G} {aC : Nat → ClassId} {ad : Nat → Nat → Nat} {X : Nat → Nat → Prop} {S A : sS} {G : sG} (C0 : s_C p s m args meth c b2_change 2 R2 (some .int) D aC) (hB : s_B D aC ad X (s_N ad X) S A G s.heap s.heap []) (hX : xC X G) (x0 : Int32) (x1 : Int32)  {ls : Array Slot} (hl : lv_has ls 2 [(0, .int x0), (1, .int x1)]) {o : Int32} (hO : V2_change S A G x0 x1 = o) : W p l e (rmk 0) s m args below meth c s.heap [] 0 0 (MQ below (s_Qp o) args s 0 0 (fun _ => False)) (F0 m 0 ls []) := by
  obtain ⟨hx, hb, hml, hown, hw, hK, hr, hlocks⟩ := id C0
  unfold V2_change at hO
  refine lv_iload_n hx hb d2_change_0 rfl (lv_at hl 0 rfl) ?_
  refine lv_iconst (v := 2) hx hb d2_change_1 (by decide) ?_
  refine lv_icmp_eq (tgt := 10) hx hb d2_change_2 (by decide) (fun c_1 => ?_) (fun c_1 => ?_)
  · refine lv_iload_n hx hb d2_change_10 rfl (lv_at hl 1 rfl) ?_
    refine lv_ineg hx hb d2_change_11 ?_
    refine lv_goto (tgt := 16) hx hb d2_change_12 (by decide) ?_
    exact se_pi C0 (by rw [if_pos c_1] at hO; exact hO) d2_change_16
  · refine lv_iload_n hx hb d2_change_5 rfl (lv_at hl 0 rfl) ?_
    refine lv_iconst (v := 4) hx hb d2_change_6 (by decide) ?_
    refine lv_icmp_ne (tgt := 15) hx hb d2_change_7 (by decide) (fun c_2 => ?_) (fun c_2 => ?_)
    · refine lv_iload_n hx hb d2_change_15 rfl (lv_at hl 1 rfl) ?_
      exact se_pi C0 (by rw [if_neg c_1, if_neg c_2] at hO; exact hO) d2_change_16
    · refine lv_iload_n hx hb d2_change_10 rfl (lv_at hl 1 rfl) ?_
      refine lv_ineg hx hb d2_change_11 ?_
      refine lv_goto (tgt := 16) hx hb d2_change_12 (by decide) ?_
      exact se_pi C0 (by rw [if_neg c_1, if_pos c_2] at hO; exact hO) d2_change_16
theorem hd2_change : y2_change.cls = R2 ∧ y2_change.cls ≠ "java/lang/invoke/MethodHandle" ∧ y2_change.cls ≠ "java/lang/invoke/VarHandle" ∧ (parseMethodDescriptor y2_change.desc).map (fun d => d.parameters.length) = some 2 := ⟨rfl, by decide, by decide, by decide +kernel⟩
theorem m2_change {l : Launch} {D : va_G} {aC : Nat → ClassId} {ad : Nat → Nat → Nat} {X : Nat → Nat → Prop} {S A : sS} {G : sG} (hX : xC X G) (x0 : Int32) (x1 : Int32)  : Met l y2_change (.code y2_change b2_change 2 (some .int) :: wall) (rmk 0) (s_Pc [.int x0, .int x1] D aC ad X S A G) (s_Qp (V2_change S A G x0 x1)) 0 0 (fun _ => False) :=
  s_met (by decide) rfl (Nat.le_of_ble_eq_true rfl) (fun p e s m args below meth c C0 hB ls hl => k2_change_0 C0 hB hX x0 x1  hl rfl)

def O2_write (S A : sS) (G : sG) (x1 : Int32) (x2 : Int32) (x3 : Int32) (x4 : Int32) (x5 : Int32) (x6 : Int32) : sS × sS := if S 6 0 1 < 300 then if A 9 0 0 = 0 then if A 9 0 1 = 0 then ((up3 S 6 0 1 ((S 6 0 1) + 1)), (up3 (up3 (up3 (up3 (up3 (up3 (up3 (up3 (up3 (up3 (up3 (up3 A 11 0 (6 * (S 6 0 1).toNatClampNeg) x1) 11 0 (6 * (S 6 0 1).toNatClampNeg + 1) x2) 11 0 (6 * (S 6 0 1).toNatClampNeg + 2) x3) 11 0 (6 * (S 6 0 1).toNatClampNeg + 3) x4) 11 0 (6 * (S 6 0 1).toNatClampNeg + 4) x5) 11 0 (6 * (S 6 0 1).toNatClampNeg + 5) x6) 11 1 (6 * (S 6 0 1).toNatClampNeg) x1) 11 1 (6 * (S 6 0 1).toNatClampNeg + 1) x2) 11 1 (6 * (S 6 0 1).toNatClampNeg + 2) x3) 11 1 (6 * (S 6 0 1).toNatClampNeg + 3) x4) 11 1 (6 * (S 6 0 1).toNatClampNeg + 4) x5) 11 1 (6 * (S 6 0 1).toNatClampNeg + 5) x6)) else ((up3 S 6 0 1 ((S 6 0 1) + 1)), (up3 (up3 (up3 (up3 (up3 (up3 A 11 0 (6 * (S 6 0 1).toNatClampNeg) x1) 11 0 (6 * (S 6 0 1).toNatClampNeg + 1) x2) 11 0 (6 * (S 6 0 1).toNatClampNeg + 2) x3) 11 0 (6 * (S 6 0 1).toNatClampNeg + 3) x4) 11 0 (6 * (S 6 0 1).toNatClampNeg + 4) x5) 11 0 (6 * (S 6 0 1).toNatClampNeg + 5) x6)) else if A 9 0 1 = 0 then ((up3 S 6 0 1 ((S 6 0 1) + 1)), (up3 (up3 (up3 (up3 (up3 (up3 A 11 1 (6 * (S 6 0 1).toNatClampNeg) x1) 11 1 (6 * (S 6 0 1).toNatClampNeg + 1) x2) 11 1 (6 * (S 6 0 1).toNatClampNeg + 2) x3) 11 1 (6 * (S 6 0 1).toNatClampNeg + 3) x4) 11 1 (6 * (S 6 0 1).toNatClampNeg + 4) x5) 11 1 (6 * (S 6 0 1).toNatClampNeg + 5) x6)) else ((up3 S 6 0 1 ((S 6 0 1) + 1)), A) else (S, A)
set_option maxRecDepth 100000 in
set_option maxHeartbeats 4000000 in
theorem k2_write_0 {p : Program} {l : Launch} {e : Env} {s : State} {m : MethodId} {args : Array Value} {below : List Frame} {meth : Method} {c : Code} {D : va_G} {aC : Nat → ClassId} {ad : Nat → Nat → Nat} {X : Nat → Nat → Prop} {S A : sS} {G : sG} {H : Heap} {locs : List Loc} (C0 : s_C p s m args meth c b2_write 10 R2 none D aC) (hB : s_B D aC ad X (s_N ad X) S A G s.heap H locs) (hX : xC X G) (x1 : Int32) (x2 : Int32) (x3 : Int32) (x4 : Int32) (x5 : Int32) (x6 : Int32) (hsz : 0 ≤ (S 6 0 1).toInt ∧ (S 6 0 1).toInt ≤ 300) {ls : Array Slot} (hl : lv_has ls 10 [(0, .ref (ad 6 0)), (1, .int x1), (2, .int x2), (3, .int x3), (4, .int x4), (5, .int x5), (6, .int x6)]) {o : sS × sS} (hO : O2_write S A G x1 x2 x3 x4 x5 x6 = o) : W p l e (rmk 0) s m args below meth c H locs 0 0 (MQ below (s_Qv D aC ad X G o) args s 0 0 (s_N ad X)) (F0 m 0 ls []) := by
  obtain ⟨hx, hb, hml, hown, hw, hK, hr, hlocks⟩ := id C0
  unfold O2_write at hO
  refine lv_aload_n hx hb d2_write_0 rfl (lv_at hl 0 rfl) ?_
  refine sr_get (v := .int (S 6 0 1)) hx hb hw hown hK hB 1 (hX.1 6 (by decide)) cf_6 us2 (by decide) fl_2_15 (rfl) d2_write_1 ?_
  refine lv_sipush (v := 300) hx hb d2_write_4 (by decide) ?_
  refine lv_icmp_lt (tgt := 11) hx hb d2_write_7 (by decide) (fun c_1 => ?_) (fun c_1 => ?_)
  · refine lv_iconst (v := 0) hx hb d2_write_11 (by decide) ?_
    refine lv_istore (lv' := [(7, .int 0), (0, .ref (ad 6 0)), (1, .int x1), (2, .int x2), (3, .int x3), (4, .int x4), (5, .int x5), (6, .int x6)]) hx hb d2_write_12 hl (by decide) rfl (fun ls hl => ?_)
    refine lv_iload hx hb d2_write_14 (lv_at hl 0 rfl) ?_
    refine lv_iconst (v := 2) hx hb d2_write_16 (by decide) ?_
    refine lv_icmp_ge (tgt := 103) hx hb d2_write_17 (by decide) (fun c => absurd c (by decide)) (fun _ => ?_)
    refine lv_aload_n hx hb d2_write_20 rfl (lv_at hl 1 rfl) ?_
    refine sr_get (v := .ref (ad 9 0)) hx hb hw hown hK hB 0 (hX.1 6 (by decide)) cf_6 us2 (by decide) fl_2_11 (rfl) d2_write_21 ?_
    refine lv_iload hx hb d2_write_24 (lv_at hl 0 rfl) ?_
    refine sr_zald (v := A 9 0 0) hx hb hK hB (hX.1 9 (by decide)) rfl rfl (by (refine vp_in_iff.mpr ?_); decide) d2_write_26 (rfl) ?_
    refine lv_if_ne (tgt := 97) hx hb d2_write_27 (by decide) (fun c_3 => ?_) (fun c_3 => ?_)
    · refine lv_iinc (v := 1) (lv' := [(7, .int 1), (0, .ref (ad 6 0)), (1, .int x1), (2, .int x2), (3, .int x3), (4, .int x4), (5, .int x5), (6, .int x6)]) hx hb d2_write_97 hl (k := 0) rfl (by decide) (by decide) rfl (fun ls hl => ?_)
      refine lv_goto (tgt := 14) hx hb d2_write_100 (by decide) ?_
      refine lv_iload hx hb d2_write_14 (lv_at hl 0 rfl) ?_
      refine lv_iconst (v := 2) hx hb d2_write_16 (by decide) ?_
      refine lv_icmp_ge (tgt := 103) hx hb d2_write_17 (by decide) (fun c => absurd c (by decide)) (fun _ => ?_)
      refine lv_aload_n hx hb d2_write_20 rfl (lv_at hl 1 rfl) ?_
      refine sr_get (v := .ref (ad 9 0)) hx hb hw hown hK hB 0 (hX.1 6 (by decide)) cf_6 us2 (by decide) fl_2_11 (rfl) d2_write_21 ?_
      refine lv_iload hx hb d2_write_24 (lv_at hl 0 rfl) ?_
      refine sr_zald (v := A 9 0 1) hx hb hK hB (hX.1 9 (by decide)) rfl rfl (by (refine vp_in_iff.mpr ?_); decide) d2_write_26 (rfl) ?_
      refine lv_if_ne (tgt := 97) hx hb d2_write_27 (by decide) (fun c_5 => ?_) (fun c_5 => ?_)
      · refine lv_iinc (v := 2) (lv' := [(7, .int 2), (0, .ref (ad 6 0)), (1, .int x1), (2, .int x2), (3, .int x3), (4, .int x4), (5, .int x5), (6, .int x6)]) hx hb d2_write_97 hl (k := 0) rfl (by decide) (by decide) rfl (fun ls hl => ?_)
        refine lv_goto (tgt := 14) hx hb d2_write_100 (by decide) ?_
        refine lv_iload hx hb d2_write_14 (lv_at hl 0 rfl) ?_
        refine lv_iconst (v := 2) hx hb d2_write_16 (by decide) ?_
        refine lv_icmp_ge (tgt := 103) hx hb d2_write_17 (by decide) (fun _ => ?_) (fun c => absurd (by decide) c)
        refine lv_aload_n hx hb d2_write_103 rfl (lv_at hl 1 rfl) ?_
        refine lv_dup hx hb d2_write_104 rfl ?_
        refine sr_get (v := .int (S 6 0 1)) hx hb hw hown hK hB 1 (hX.1 6 (by decide)) cf_6 us2 (by decide) fl_2_15 (rfl) d2_write_105 ?_
        refine lv_iconst (v := 1) hx hb d2_write_108 (by decide) ?_
        refine lv_iadd hx hb d2_write_109 ?_
        refine sr_put hx hb hw hown hK hB 1 (hX.1 6 (by decide)) cf_6 us2 tk2 nm2 (by decide) fl_2_15 rfl rfl rfl rfl d2_write_110 (fun H locs hB => ?_)
        exact se_v C0 hB (by rw [if_pos c_1, if_neg c_3, if_neg c_5] at hO; exact hO) d2_write_113
      · refine lv_aload_n hx hb d2_write_30 rfl (lv_at hl 1 rfl) ?_
        refine sr_get (v := .ref (ad 10 0)) hx hb hw hown hK hB 2 (hX.1 6 (by decide)) cf_6 us2 (by decide) fl_2_21 (rfl) d2_write_31 ?_
        refine lv_iload hx hb d2_write_34 (lv_at hl 0 rfl) ?_
        refine sr_aald (v := some 1) hx hb hK hB (hX.1 10 (by decide)) rfl rfl rfl (by (refine vp_in_iff.mpr ?_); decide) d2_write_36 (by exact gc hX (show 1 < 2 by (have kc_1 := lt_i c_1); (have l0 : (0 : Int32).toInt = 0 := rfl); (have l1 : (1 : Int32).toInt = 1 := rfl); (have l300 : (300 : Int32).toInt = 300 := rfl); (have l6 : (6 : Int32).toInt = 6 := rfl);  omega)) ?_
        refine lv_astore (lv' := [(8, .ref (ad 11 1)), (7, .int 1), (0, .ref (ad 6 0)), (1, .int x1), (2, .int x2), (3, .int x3), (4, .int x4), (5, .int x5), (6, .int x6)]) hx hb d2_write_37 hl (by decide) rfl (fun ls hl => ?_)
        refine lv_aload_n hx hb d2_write_39 rfl (lv_at hl 2 rfl) ?_
        refine sr_get (v := .int (S 6 0 1)) hx hb hw hown hK hB 1 (hX.1 6 (by decide)) cf_6 us2 (by decide) fl_2_15 (rfl) d2_write_40 ?_
        refine lv_bipush (v := 6) hx hb d2_write_43 (by decide) ?_
        refine lv_imul hx hb d2_write_45 ?_
        refine sr_top (y := 6 * (S 6 0 1)) (Int32.mul_comm _ _) ?_
        refine lv_istore (lv' := [(9, .int (6 * (S 6 0 1))), (8, .ref (ad 11 1)), (7, .int 1), (0, .ref (ad 6 0)), (1, .int x1), (2, .int x2), (3, .int x3), (4, .int x4), (5, .int x5), (6, .int x6)]) hx hb d2_write_46 hl (by decide) rfl (fun ls hl => ?_)
        refine lv_aload hx hb d2_write_48 (lv_at hl 1 rfl) ?_
        refine lv_iload hx hb d2_write_50 (lv_at hl 0 rfl) ?_
        refine lv_iload_n hx hb d2_write_52 rfl (lv_at hl 4 rfl) ?_
        refine sr_iast hx hb hK hB (hX.2.1 (1) (show 1 < 2 by (have kc_1 := lt_i c_1); (have l0 : (0 : Int32).toInt = 0 := rfl); (have l1 : (1 : Int32).toInt = 1 := rfl); (have l300 : (300 : Int32).toInt = 300 := rfl); (have l6 : (6 : Int32).toInt = 6 := rfl);  omega)) rfl rfl (by (have kc_1 := lt_i c_1); (have l0 : (0 : Int32).toInt = 0 := rfl); (have l1 : (1 : Int32).toInt = 1 := rfl); (have l300 : (300 : Int32).toInt = 300 := rfl); (have l6 : (6 : Int32).toInt = 6 := rfl);  exact ix6z_in (x := (S 6 0 1)) (by omega) (by omega) (show _ < ((1800 : Nat) : Int) by omega)) d2_write_53 (fun H locs hB => ?_)
        rw [show (6 * (S 6 0 1)).toNatClampNeg = 6 * (S 6 0 1).toNatClampNeg from by (have kc_1 := lt_i c_1); (have l0 : (0 : Int32).toInt = 0 := rfl); (have l1 : (1 : Int32).toInt = 1 := rfl); (have l300 : (300 : Int32).toInt = 300 := rfl); (have l6 : (6 : Int32).toInt = 6 := rfl);  exact ix6z (x := (S 6 0 1)) (by omega) (by omega)] at hB
        refine lv_aload hx hb d2_write_54 (lv_at hl 1 rfl) ?_
        refine lv_iload hx hb d2_write_56 (lv_at hl 0 rfl) ?_
        refine lv_iconst (v := 1) hx hb d2_write_58 (by decide) ?_
        refine lv_iadd hx hb d2_write_59 ?_
        refine lv_iload_n hx hb d2_write_60 rfl (lv_at hl 5 rfl) ?_
        refine sr_iast hx hb hK hB (hX.2.1 (1) (show 1 < 2 by (have kc_1 := lt_i c_1); (have l0 : (0 : Int32).toInt = 0 := rfl); (have l1 : (1 : Int32).toInt = 1 := rfl); (have l300 : (300 : Int32).toInt = 300 := rfl); (have l6 : (6 : Int32).toInt = 6 := rfl);  omega)) rfl rfl (by (have kc_1 := lt_i c_1); (have l0 : (0 : Int32).toInt = 0 := rfl); (have l1 : (1 : Int32).toInt = 1 := rfl); (have l300 : (300 : Int32).toInt = 300 := rfl); (have l6 : (6 : Int32).toInt = 6 := rfl);  exact ix6_in (x := (S 6 0 1)) (j := 1) (by omega) (by omega) (by omega) (show _ < ((1800 : Nat) : Int) by omega)) d2_write_61 (fun H locs hB => ?_)
        rw [show ((6 * (S 6 0 1)) + 1).toNatClampNeg = 6 * (S 6 0 1).toNatClampNeg + 1 from by (have kc_1 := lt_i c_1); (have l0 : (0 : Int32).toInt = 0 := rfl); (have l1 : (1 : Int32).toInt = 1 := rfl); (have l300 : (300 : Int32).toInt = 300 := rfl); (have l6 : (6 : Int32).toInt = 6 := rfl);  exact ix6 (x := (S 6 0 1)) (j := 1) (by omega) (by omega) (by omega)] at hB
        refine lv_aload hx hb d2_write_62 (lv_at hl 1 rfl) ?_
        refine lv_iload hx hb d2_write_64 (lv_at hl 0 rfl) ?_
        refine lv_iconst (v := 2) hx hb d2_write_66 (by decide) ?_
        refine lv_iadd hx hb d2_write_67 ?_
        refine lv_iload_n hx hb d2_write_68 rfl (lv_at hl 6 rfl) ?_
        refine sr_iast hx hb hK hB (hX.2.1 (1) (show 1 < 2 by (have kc_1 := lt_i c_1); (have l0 : (0 : Int32).toInt = 0 := rfl); (have l1 : (1 : Int32).toInt = 1 := rfl); (have l300 : (300 : Int32).toInt = 300 := rfl); (have l6 : (6 : Int32).toInt = 6 := rfl);  omega)) rfl rfl (by (have kc_1 := lt_i c_1); (have l0 : (0 : Int32).toInt = 0 := rfl); (have l1 : (1 : Int32).toInt = 1 := rfl); (have l300 : (300 : Int32).toInt = 300 := rfl); (have l6 : (6 : Int32).toInt = 6 := rfl);  exact ix6_in (x := (S 6 0 1)) (j := 2) (by omega) (by omega) (by omega) (show _ < ((1800 : Nat) : Int) by omega)) d2_write_69 (fun H locs hB => ?_)
        rw [show ((6 * (S 6 0 1)) + 2).toNatClampNeg = 6 * (S 6 0 1).toNatClampNeg + 2 from by (have kc_1 := lt_i c_1); (have l0 : (0 : Int32).toInt = 0 := rfl); (have l1 : (1 : Int32).toInt = 1 := rfl); (have l300 : (300 : Int32).toInt = 300 := rfl); (have l6 : (6 : Int32).toInt = 6 := rfl);  exact ix6 (x := (S 6 0 1)) (j := 2) (by omega) (by omega) (by omega)] at hB
        refine lv_aload hx hb d2_write_70 (lv_at hl 1 rfl) ?_
        refine lv_iload hx hb d2_write_72 (lv_at hl 0 rfl) ?_
        refine lv_iconst (v := 3) hx hb d2_write_74 (by decide) ?_
        refine lv_iadd hx hb d2_write_75 ?_
        refine lv_iload hx hb d2_write_76 (lv_at hl 7 rfl) ?_
        refine sr_iast hx hb hK hB (hX.2.1 (1) (show 1 < 2 by (have kc_1 := lt_i c_1); (have l0 : (0 : Int32).toInt = 0 := rfl); (have l1 : (1 : Int32).toInt = 1 := rfl); (have l300 : (300 : Int32).toInt = 300 := rfl); (have l6 : (6 : Int32).toInt = 6 := rfl);  omega)) rfl rfl (by (have kc_1 := lt_i c_1); (have l0 : (0 : Int32).toInt = 0 := rfl); (have l1 : (1 : Int32).toInt = 1 := rfl); (have l300 : (300 : Int32).toInt = 300 := rfl); (have l6 : (6 : Int32).toInt = 6 := rfl);  exact ix6_in (x := (S 6 0 1)) (j := 3) (by omega) (by omega) (by omega) (show _ < ((1800 : Nat) : Int) by omega)) d2_write_78 (fun H locs hB => ?_)
        rw [show ((6 * (S 6 0 1)) + 3).toNatClampNeg = 6 * (S 6 0 1).toNatClampNeg + 3 from by (have kc_1 := lt_i c_1); (have l0 : (0 : Int32).toInt = 0 := rfl); (have l1 : (1 : Int32).toInt = 1 := rfl); (have l300 : (300 : Int32).toInt = 300 := rfl); (have l6 : (6 : Int32).toInt = 6 := rfl);  exact ix6 (x := (S 6 0 1)) (j := 3) (by omega) (by omega) (by omega)] at hB
        refine lv_aload hx hb d2_write_79 (lv_at hl 1 rfl) ?_
        refine lv_iload hx hb d2_write_81 (lv_at hl 0 rfl) ?_
        refine lv_iconst (v := 4) hx hb d2_write_83 (by decide) ?_
        refine lv_iadd hx hb d2_write_84 ?_
        refine lv_iload hx hb d2_write_85 (lv_at hl 8 rfl) ?_
        refine sr_iast hx hb hK hB (hX.2.1 (1) (show 1 < 2 by (have kc_1 := lt_i c_1); (have l0 : (0 : Int32).toInt = 0 := rfl); (have l1 : (1 : Int32).toInt = 1 := rfl); (have l300 : (300 : Int32).toInt = 300 := rfl); (have l6 : (6 : Int32).toInt = 6 := rfl);  omega)) rfl rfl (by (have kc_1 := lt_i c_1); (have l0 : (0 : Int32).toInt = 0 := rfl); (have l1 : (1 : Int32).toInt = 1 := rfl); (have l300 : (300 : Int32).toInt = 300 := rfl); (have l6 : (6 : Int32).toInt = 6 := rfl);  exact ix6_in (x := (S 6 0 1)) (j := 4) (by omega) (by omega) (by omega) (show _ < ((1800 : Nat) : Int) by omega)) d2_write_87 (fun H locs hB => ?_)
        rw [show ((6 * (S 6 0 1)) + 4).toNatClampNeg = 6 * (S 6 0 1).toNatClampNeg + 4 from by (have kc_1 := lt_i c_1); (have l0 : (0 : Int32).toInt = 0 := rfl); (have l1 : (1 : Int32).toInt = 1 := rfl); (have l300 : (300 : Int32).toInt = 300 := rfl); (have l6 : (6 : Int32).toInt = 6 := rfl);  exact ix6 (x := (S 6 0 1)) (j := 4) (by omega) (by omega) (by omega)] at hB
        refine lv_aload hx hb d2_write_88 (lv_at hl 1 rfl) ?_
        refine lv_iload hx hb d2_write_90 (lv_at hl 0 rfl) ?_
        refine lv_iconst (v := 5) hx hb d2_write_92 (by decide) ?_
        refine lv_iadd hx hb d2_write_93 ?_
        refine lv_iload hx hb d2_write_94 (lv_at hl 9 rfl) ?_
        refine sr_iast hx hb hK hB (hX.2.1 (1) (show 1 < 2 by (have kc_1 := lt_i c_1); (have l0 : (0 : Int32).toInt = 0 := rfl); (have l1 : (1 : Int32).toInt = 1 := rfl); (have l300 : (300 : Int32).toInt = 300 := rfl); (have l6 : (6 : Int32).toInt = 6 := rfl);  omega)) rfl rfl (by (have kc_1 := lt_i c_1); (have l0 : (0 : Int32).toInt = 0 := rfl); (have l1 : (1 : Int32).toInt = 1 := rfl); (have l300 : (300 : Int32).toInt = 300 := rfl); (have l6 : (6 : Int32).toInt = 6 := rfl);  exact ix6_in (x := (S 6 0 1)) (j := 5) (by omega) (by omega) (by omega) (show _ < ((1800 : Nat) : Int) by omega)) d2_write_96 (fun H locs hB => ?_)
        rw [show ((6 * (S 6 0 1)) + 5).toNatClampNeg = 6 * (S 6 0 1).toNatClampNeg + 5 from by (have kc_1 := lt_i c_1); (have l0 : (0 : Int32).toInt = 0 := rfl); (have l1 : (1 : Int32).toInt = 1 := rfl); (have l300 : (300 : Int32).toInt = 300 := rfl); (have l6 : (6 : Int32).toInt = 6 := rfl);  exact ix6 (x := (S 6 0 1)) (j := 5) (by omega) (by omega) (by omega)] at hB
        refine lv_iinc (v := 2) (lv' := [(7, .int 2), (9, .int (6 * (S 6 0 1))), (8, .ref (ad 11 1)), (0, .ref (ad 6 0)), (1, .int x1), (2, .int x2), (3, .int x3), (4, .int x4), (5, .int x5), (6, .int x6)]) hx hb d2_write_97 hl (k := 2) rfl (by decide) (by decide) rfl (fun ls hl => ?_)
        refine lv_goto (tgt := 14) hx hb d2_write_100 (by decide) ?_
        refine lv_iload hx hb d2_write_14 (lv_at hl 0 rfl) ?_
        refine lv_iconst (v := 2) hx hb d2_write_16 (by decide) ?_
        refine lv_icmp_ge (tgt := 103) hx hb d2_write_17 (by decide) (fun _ => ?_) (fun c => absurd (by decide) c)
        refine lv_aload_n hx hb d2_write_103 rfl (lv_at hl 3 rfl) ?_
        refine lv_dup hx hb d2_write_104 rfl ?_
        refine sr_get (v := .int (S 6 0 1)) hx hb hw hown hK hB 1 (hX.1 6 (by decide)) cf_6 us2 (by decide) fl_2_15 (rfl) d2_write_105 ?_
        refine lv_iconst (v := 1) hx hb d2_write_108 (by decide) ?_
        refine lv_iadd hx hb d2_write_109 ?_
        refine sr_put hx hb hw hown hK hB 1 (hX.1 6 (by decide)) cf_6 us2 tk2 nm2 (by decide) fl_2_15 rfl rfl rfl rfl d2_write_110 (fun H locs hB => ?_)
        exact se_v C0 hB (by rw [if_pos c_1, if_neg c_3, if_pos c_5] at hO; exact hO) d2_write_113
    · refine lv_aload_n hx hb d2_write_30 rfl (lv_at hl 1 rfl) ?_
      refine sr_get (v := .ref (ad 10 0)) hx hb hw hown hK hB 2 (hX.1 6 (by decide)) cf_6 us2 (by decide) fl_2_21 (rfl) d2_write_31 ?_
      refine lv_iload hx hb d2_write_34 (lv_at hl 0 rfl) ?_
      refine sr_aald (v := some 0) hx hb hK hB (hX.1 10 (by decide)) rfl rfl rfl (by (refine vp_in_iff.mpr ?_); decide) d2_write_36 (by exact gc hX (show 0 < 2 by (have kc_1 := lt_i c_1); (have l0 : (0 : Int32).toInt = 0 := rfl); (have l1 : (1 : Int32).toInt = 1 := rfl); (have l300 : (300 : Int32).toInt = 300 := rfl); (have l6 : (6 : Int32).toInt = 6 := rfl);  omega)) ?_
      refine lv_astore (lv' := [(8, .ref (ad 11 0)), (7, .int 0), (0, .ref (ad 6 0)), (1, .int x1), (2, .int x2), (3, .int x3), (4, .int x4), (5, .int x5), (6, .int x6)]) hx hb d2_write_37 hl (by decide) rfl (fun ls hl => ?_)
      refine lv_aload_n hx hb d2_write_39 rfl (lv_at hl 2 rfl) ?_
      refine sr_get (v := .int (S 6 0 1)) hx hb hw hown hK hB 1 (hX.1 6 (by decide)) cf_6 us2 (by decide) fl_2_15 (rfl) d2_write_40 ?_
      refine lv_bipush (v := 6) hx hb d2_write_43 (by decide) ?_
      refine lv_imul hx hb d2_write_45 ?_
      refine sr_top (y := 6 * (S 6 0 1)) (Int32.mul_comm _ _) ?_
      refine lv_istore (lv' := [(9, .int (6 * (S 6 0 1))), (8, .ref (ad 11 0)), (7, .int 0), (0, .ref (ad 6 0)), (1, .int x1), (2, .int x2), (3, .int x3), (4, .int x4), (5, .int x5), (6, .int x6)]) hx hb d2_write_46 hl (by decide) rfl (fun ls hl => ?_)
      refine lv_aload hx hb d2_write_48 (lv_at hl 1 rfl) ?_
      refine lv_iload hx hb d2_write_50 (lv_at hl 0 rfl) ?_
      refine lv_iload_n hx hb d2_write_52 rfl (lv_at hl 4 rfl) ?_
      refine sr_iast hx hb hK hB (hX.2.1 (0) (show 0 < 2 by (have kc_1 := lt_i c_1); (have l0 : (0 : Int32).toInt = 0 := rfl); (have l1 : (1 : Int32).toInt = 1 := rfl); (have l300 : (300 : Int32).toInt = 300 := rfl); (have l6 : (6 : Int32).toInt = 6 := rfl);  omega)) rfl rfl (by (have kc_1 := lt_i c_1); (have l0 : (0 : Int32).toInt = 0 := rfl); (have l1 : (1 : Int32).toInt = 1 := rfl); (have l300 : (300 : Int32).toInt = 300 := rfl); (have l6 : (6 : Int32).toInt = 6 := rfl);  exact ix6z_in (x := (S 6 0 1)) (by omega) (by omega) (show _ < ((1800 : Nat) : Int) by omega)) d2_write_53 (fun H locs hB => ?_)
      rw [show (6 * (S 6 0 1)).toNatClampNeg = 6 * (S 6 0 1).toNatClampNeg from by (have kc_1 := lt_i c_1); (have l0 : (0 : Int32).toInt = 0 := rfl); (have l1 : (1 : Int32).toInt = 1 := rfl); (have l300 : (300 : Int32).toInt = 300 := rfl); (have l6 : (6 : Int32).toInt = 6 := rfl);  exact ix6z (x := (S 6 0 1)) (by omega) (by omega)] at hB
      refine lv_aload hx hb d2_write_54 (lv_at hl 1 rfl) ?_
      refine lv_iload hx hb d2_write_56 (lv_at hl 0 rfl) ?_
      refine lv_iconst (v := 1) hx hb d2_write_58 (by decide) ?_
      refine lv_iadd hx hb d2_write_59 ?_
      refine lv_iload_n hx hb d2_write_60 rfl (lv_at hl 5 rfl) ?_
      refine sr_iast hx hb hK hB (hX.2.1 (0) (show 0 < 2 by (have kc_1 := lt_i c_1); (have l0 : (0 : Int32).toInt = 0 := rfl); (have l1 : (1 : Int32).toInt = 1 := rfl); (have l300 : (300 : Int32).toInt = 300 := rfl); (have l6 : (6 : Int32).toInt = 6 := rfl);  omega)) rfl rfl (by (have kc_1 := lt_i c_1); (have l0 : (0 : Int32).toInt = 0 := rfl); (have l1 : (1 : Int32).toInt = 1 := rfl); (have l300 : (300 : Int32).toInt = 300 := rfl); (have l6 : (6 : Int32).toInt = 6 := rfl);  exact ix6_in (x := (S 6 0 1)) (j := 1) (by omega) (by omega) (by omega) (show _ < ((1800 : Nat) : Int) by omega)) d2_write_61 (fun H locs hB => ?_)
      rw [show ((6 * (S 6 0 1)) + 1).toNatClampNeg = 6 * (S 6 0 1).toNatClampNeg + 1 from by (have kc_1 := lt_i c_1); (have l0 : (0 : Int32).toInt = 0 := rfl); (have l1 : (1 : Int32).toInt = 1 := rfl); (have l300 : (300 : Int32).toInt = 300 := rfl); (have l6 : (6 : Int32).toInt = 6 := rfl);  exact ix6 (x := (S 6 0 1)) (j := 1) (by omega) (by omega) (by omega)] at hB
      refine lv_aload hx hb d2_write_62 (lv_at hl 1 rfl) ?_
      refine lv_iload hx hb d2_write_64 (lv_at hl 0 rfl) ?_
      refine lv_iconst (v := 2) hx hb d2_write_66 (by decide) ?_
      refine lv_iadd hx hb d2_write_67 ?_
      refine lv_iload_n hx hb d2_write_68 rfl (lv_at hl 6 rfl) ?_
      refine sr_iast hx hb hK hB (hX.2.1 (0) (show 0 < 2 by (have kc_1 := lt_i c_1); (have l0 : (0 : Int32).toInt = 0 := rfl); (have l1 : (1 : Int32).toInt = 1 := rfl); (have l300 : (300 : Int32).toInt = 300 := rfl); (have l6 : (6 : Int32).toInt = 6 := rfl);  omega)) rfl rfl (by (have kc_1 := lt_i c_1); (have l0 : (0 : Int32).toInt = 0 := rfl); (have l1 : (1 : Int32).toInt = 1 := rfl); (have l300 : (300 : Int32).toInt = 300 := rfl); (have l6 : (6 : Int32).toInt = 6 := rfl);  exact ix6_in (x := (S 6 0 1)) (j := 2) (by omega) (by omega) (by omega) (show _ < ((1800 : Nat) : Int) by omega)) d2_write_69 (fun H locs hB => ?_)
      rw [show ((6 * (S 6 0 1)) + 2).toNatClampNeg = 6 * (S 6 0 1).toNatClampNeg + 2 from by (have kc_1 := lt_i c_1); (have l0 : (0 : Int32).toInt = 0 := rfl); (have l1 : (1 : Int32).toInt = 1 := rfl); (have l300 : (300 : Int32).toInt = 300 := rfl); (have l6 : (6 : Int32).toInt = 6 := rfl);  exact ix6 (x := (S 6 0 1)) (j := 2) (by omega) (by omega) (by omega)] at hB
      refine lv_aload hx hb d2_write_70 (lv_at hl 1 rfl) ?_
      refine lv_iload hx hb d2_write_72 (lv_at hl 0 rfl) ?_
      refine lv_iconst (v := 3) hx hb d2_write_74 (by decide) ?_
      refine lv_iadd hx hb d2_write_75 ?_
      refine lv_iload hx hb d2_write_76 (lv_at hl 7 rfl) ?_
      refine sr_iast hx hb hK hB (hX.2.1 (0) (show 0 < 2 by (have kc_1 := lt_i c_1); (have l0 : (0 : Int32).toInt = 0 := rfl); (have l1 : (1 : Int32).toInt = 1 := rfl); (have l300 : (300 : Int32).toInt = 300 := rfl); (have l6 : (6 : Int32).toInt = 6 := rfl);  omega)) rfl rfl (by (have kc_1 := lt_i c_1); (have l0 : (0 : Int32).toInt = 0 := rfl); (have l1 : (1 : Int32).toInt = 1 := rfl); (have l300 : (300 : Int32).toInt = 300 := rfl); (have l6 : (6 : Int32).toInt = 6 := rfl);  exact ix6_in (x := (S 6 0 1)) (j := 3) (by omega) (by omega) (by omega) (show _ < ((1800 : Nat) : Int) by omega)) d2_write_78 (fun H locs hB => ?_)
      rw [show ((6 * (S 6 0 1)) + 3).toNatClampNeg = 6 * (S 6 0 1).toNatClampNeg + 3 from by (have kc_1 := lt_i c_1); (have l0 : (0 : Int32).toInt = 0 := rfl); (have l1 : (1 : Int32).toInt = 1 := rfl); (have l300 : (300 : Int32).toInt = 300 := rfl); (have l6 : (6 : Int32).toInt = 6 := rfl);  exact ix6 (x := (S 6 0 1)) (j := 3) (by omega) (by omega) (by omega)] at hB
      refine lv_aload hx hb d2_write_79 (lv_at hl 1 rfl) ?_
      refine lv_iload hx hb d2_write_81 (lv_at hl 0 rfl) ?_
      refine lv_iconst (v := 4) hx hb d2_write_83 (by decide) ?_
      refine lv_iadd hx hb d2_write_84 ?_
      refine lv_iload hx hb d2_write_85 (lv_at hl 8 rfl) ?_
      refine sr_iast hx hb hK hB (hX.2.1 (0) (show 0 < 2 by (have kc_1 := lt_i c_1); (have l0 : (0 : Int32).toInt = 0 := rfl); (have l1 : (1 : Int32).toInt = 1 := rfl); (have l300 : (300 : Int32).toInt = 300 := rfl); (have l6 : (6 : Int32).toInt = 6 := rfl);  omega)) rfl rfl (by (have kc_1 := lt_i c_1); (have l0 : (0 : Int32).toInt = 0 := rfl); (have l1 : (1 : Int32).toInt = 1 := rfl); (have l300 : (300 : Int32).toInt = 300 := rfl); (have l6 : (6 : Int32).toInt = 6 := rfl);  exact ix6_in (x := (S 6 0 1)) (j := 4) (by omega) (by omega) (by omega) (show _ < ((1800 : Nat) : Int) by omega)) d2_write_87 (fun H locs hB => ?_)
      rw [show ((6 * (S 6 0 1)) + 4).toNatClampNeg = 6 * (S 6 0 1).toNatClampNeg + 4 from by (have kc_1 := lt_i c_1); (have l0 : (0 : Int32).toInt = 0 := rfl); (have l1 : (1 : Int32).toInt = 1 := rfl); (have l300 : (300 : Int32).toInt = 300 := rfl); (have l6 : (6 : Int32).toInt = 6 := rfl);  exact ix6 (x := (S 6 0 1)) (j := 4) (by omega) (by omega) (by omega)] at hB
      refine lv_aload hx hb d2_write_88 (lv_at hl 1 rfl) ?_
      refine lv_iload hx hb d2_write_90 (lv_at hl 0 rfl) ?_
      refine lv_iconst (v := 5) hx hb d2_write_92 (by decide) ?_
      refine lv_iadd hx hb d2_write_93 ?_
      refine lv_iload hx hb d2_write_94 (lv_at hl 9 rfl) ?_
      refine sr_iast hx hb hK hB (hX.2.1 (0) (show 0 < 2 by (have kc_1 := lt_i c_1); (have l0 : (0 : Int32).toInt = 0 := rfl); (have l1 : (1 : Int32).toInt = 1 := rfl); (have l300 : (300 : Int32).toInt = 300 := rfl); (have l6 : (6 : Int32).toInt = 6 := rfl);  omega)) rfl rfl (by (have kc_1 := lt_i c_1); (have l0 : (0 : Int32).toInt = 0 := rfl); (have l1 : (1 : Int32).toInt = 1 := rfl); (have l300 : (300 : Int32).toInt = 300 := rfl); (have l6 : (6 : Int32).toInt = 6 := rfl);  exact ix6_in (x := (S 6 0 1)) (j := 5) (by omega) (by omega) (by omega) (show _ < ((1800 : Nat) : Int) by omega)) d2_write_96 (fun H locs hB => ?_)
      rw [show ((6 * (S 6 0 1)) + 5).toNatClampNeg = 6 * (S 6 0 1).toNatClampNeg + 5 from by (have kc_1 := lt_i c_1); (have l0 : (0 : Int32).toInt = 0 := rfl); (have l1 : (1 : Int32).toInt = 1 := rfl); (have l300 : (300 : Int32).toInt = 300 := rfl); (have l6 : (6 : Int32).toInt = 6 := rfl);  exact ix6 (x := (S 6 0 1)) (j := 5) (by omega) (by omega) (by omega)] at hB
      refine lv_iinc (v := 1) (lv' := [(7, .int 1), (9, .int (6 * (S 6 0 1))), (8, .ref (ad 11 0)), (0, .ref (ad 6 0)), (1, .int x1), (2, .int x2), (3, .int x3), (4, .int x4), (5, .int x5), (6, .int x6)]) hx hb d2_write_97 hl (k := 2) rfl (by decide) (by decide) rfl (fun ls hl => ?_)
      refine lv_goto (tgt := 14) hx hb d2_write_100 (by decide) ?_
      refine lv_iload hx hb d2_write_14 (lv_at hl 0 rfl) ?_
      refine lv_iconst (v := 2) hx hb d2_write_16 (by decide) ?_
      refine lv_icmp_ge (tgt := 103) hx hb d2_write_17 (by decide) (fun c => absurd c (by decide)) (fun _ => ?_)
      refine lv_aload_n hx hb d2_write_20 rfl (lv_at hl 3 rfl) ?_
      refine sr_get (v := .ref (ad 9 0)) hx hb hw hown hK hB 0 (hX.1 6 (by decide)) cf_6 us2 (by decide) fl_2_11 (rfl) d2_write_21 ?_
      refine lv_iload hx hb d2_write_24 (lv_at hl 0 rfl) ?_
      refine sr_zald (v := A 9 0 1) hx hb hK hB (hX.1 9 (by decide)) rfl rfl (by (refine vp_in_iff.mpr ?_); decide) d2_write_26 (rfl) ?_
      refine lv_if_ne (tgt := 97) hx hb d2_write_27 (by decide) (fun c_9 => ?_) (fun c_9 => ?_)
      · refine lv_iinc (v := 2) (lv' := [(7, .int 2), (9, .int (6 * (S 6 0 1))), (8, .ref (ad 11 0)), (0, .ref (ad 6 0)), (1, .int x1), (2, .int x2), (3, .int x3), (4, .int x4), (5, .int x5), (6, .int x6)]) hx hb d2_write_97 hl (k := 0) rfl (by decide) (by decide) rfl (fun ls hl => ?_)
        refine lv_goto (tgt := 14) hx hb d2_write_100 (by decide) ?_
        refine lv_iload hx hb d2_write_14 (lv_at hl 0 rfl) ?_
        refine lv_iconst (v := 2) hx hb d2_write_16 (by decide) ?_
        refine lv_icmp_ge (tgt := 103) hx hb d2_write_17 (by decide) (fun _ => ?_) (fun c => absurd (by decide) c)
        refine lv_aload_n hx hb d2_write_103 rfl (lv_at hl 3 rfl) ?_
        refine lv_dup hx hb d2_write_104 rfl ?_
        refine sr_get (v := .int (S 6 0 1)) hx hb hw hown hK hB 1 (hX.1 6 (by decide)) cf_6 us2 (by decide) fl_2_15 (rfl) d2_write_105 ?_
        refine lv_iconst (v := 1) hx hb d2_write_108 (by decide) ?_
        refine lv_iadd hx hb d2_write_109 ?_
        refine sr_put hx hb hw hown hK hB 1 (hX.1 6 (by decide)) cf_6 us2 tk2 nm2 (by decide) fl_2_15 rfl rfl rfl rfl d2_write_110 (fun H locs hB => ?_)
        exact se_v C0 hB (by rw [if_pos c_1, if_pos c_3, if_neg c_9] at hO; exact hO) d2_write_113
      · refine lv_aload_n hx hb d2_write_30 rfl (lv_at hl 3 rfl) ?_
        refine sr_get (v := .ref (ad 10 0)) hx hb hw hown hK hB 2 (hX.1 6 (by decide)) cf_6 us2 (by decide) fl_2_21 (rfl) d2_write_31 ?_
        refine lv_iload hx hb d2_write_34 (lv_at hl 0 rfl) ?_
        refine sr_aald (v := some 1) hx hb hK hB (hX.1 10 (by decide)) rfl rfl rfl (by (refine vp_in_iff.mpr ?_); decide) d2_write_36 (by exact gc hX (show 1 < 2 by (have kc_1 := lt_i c_1); (have l0 : (0 : Int32).toInt = 0 := rfl); (have l1 : (1 : Int32).toInt = 1 := rfl); (have l300 : (300 : Int32).toInt = 300 := rfl); (have l6 : (6 : Int32).toInt = 6 := rfl);  omega)) ?_
        refine lv_astore (lv' := [(8, .ref (ad 11 1)), (7, .int 1), (9, .int (6 * (S 6 0 1))), (0, .ref (ad 6 0)), (1, .int x1), (2, .int x2), (3, .int x3), (4, .int x4), (5, .int x5), (6, .int x6)]) hx hb d2_write_37 hl (by decide) rfl (fun ls hl => ?_)
        refine lv_aload_n hx hb d2_write_39 rfl (lv_at hl 3 rfl) ?_
        refine sr_get (v := .int (S 6 0 1)) hx hb hw hown hK hB 1 (hX.1 6 (by decide)) cf_6 us2 (by decide) fl_2_15 (rfl) d2_write_40 ?_
        refine lv_bipush (v := 6) hx hb d2_write_43 (by decide) ?_
        refine lv_imul hx hb d2_write_45 ?_
        refine sr_top (y := 6 * (S 6 0 1)) (Int32.mul_comm _ _) ?_
        refine lv_istore (lv' := [(9, .int (6 * (S 6 0 1))), (8, .ref (ad 11 1)), (7, .int 1), (0, .ref (ad 6 0)), (1, .int x1), (2, .int x2), (3, .int x3), (4, .int x4), (5, .int x5), (6, .int x6)]) hx hb d2_write_46 hl (by decide) rfl (fun ls hl => ?_)
        refine lv_aload hx hb d2_write_48 (lv_at hl 1 rfl) ?_
        refine lv_iload hx hb d2_write_50 (lv_at hl 0 rfl) ?_
        refine lv_iload_n hx hb d2_write_52 rfl (lv_at hl 4 rfl) ?_
        refine sr_iast hx hb hK hB (hX.2.1 (1) (show 1 < 2 by (have kc_1 := lt_i c_1); (have l0 : (0 : Int32).toInt = 0 := rfl); (have l1 : (1 : Int32).toInt = 1 := rfl); (have l300 : (300 : Int32).toInt = 300 := rfl); (have l6 : (6 : Int32).toInt = 6 := rfl);  omega)) rfl rfl (by (have kc_1 := lt_i c_1); (have l0 : (0 : Int32).toInt = 0 := rfl); (have l1 : (1 : Int32).toInt = 1 := rfl); (have l300 : (300 : Int32).toInt = 300 := rfl); (have l6 : (6 : Int32).toInt = 6 := rfl);  exact ix6z_in (x := (S 6 0 1)) (by omega) (by omega) (show _ < ((1800 : Nat) : Int) by omega)) d2_write_53 (fun H locs hB => ?_)
        rw [show (6 * (S 6 0 1)).toNatClampNeg = 6 * (S 6 0 1).toNatClampNeg from by (have kc_1 := lt_i c_1); (have l0 : (0 : Int32).toInt = 0 := rfl); (have l1 : (1 : Int32).toInt = 1 := rfl); (have l300 : (300 : Int32).toInt = 300 := rfl); (have l6 : (6 : Int32).toInt = 6 := rfl);  exact ix6z (x := (S 6 0 1)) (by omega) (by omega)] at hB
        refine lv_aload hx hb d2_write_54 (lv_at hl 1 rfl) ?_
        refine lv_iload hx hb d2_write_56 (lv_at hl 0 rfl) ?_
        refine lv_iconst (v := 1) hx hb d2_write_58 (by decide) ?_
        refine lv_iadd hx hb d2_write_59 ?_
        refine lv_iload_n hx hb d2_write_60 rfl (lv_at hl 5 rfl) ?_
        refine sr_iast hx hb hK hB (hX.2.1 (1) (show 1 < 2 by (have kc_1 := lt_i c_1); (have l0 : (0 : Int32).toInt = 0 := rfl); (have l1 : (1 : Int32).toInt = 1 := rfl); (have l300 : (300 : Int32).toInt = 300 := rfl); (have l6 : (6 : Int32).toInt = 6 := rfl);  omega)) rfl rfl (by (have kc_1 := lt_i c_1); (have l0 : (0 : Int32).toInt = 0 := rfl); (have l1 : (1 : Int32).toInt = 1 := rfl); (have l300 : (300 : Int32).toInt = 300 := rfl); (have l6 : (6 : Int32).toInt = 6 := rfl);  exact ix6_in (x := (S 6 0 1)) (j := 1) (by omega) (by omega) (by omega) (show _ < ((1800 : Nat) : Int) by omega)) d2_write_61 (fun H locs hB => ?_)
        rw [show ((6 * (S 6 0 1)) + 1).toNatClampNeg = 6 * (S 6 0 1).toNatClampNeg + 1 from by (have kc_1 := lt_i c_1); (have l0 : (0 : Int32).toInt = 0 := rfl); (have l1 : (1 : Int32).toInt = 1 := rfl); (have l300 : (300 : Int32).toInt = 300 := rfl); (have l6 : (6 : Int32).toInt = 6 := rfl);  exact ix6 (x := (S 6 0 1)) (j := 1) (by omega) (by omega) (by omega)] at hB
        refine lv_aload hx hb d2_write_62 (lv_at hl 1 rfl) ?_
        refine lv_iload hx hb d2_write_64 (lv_at hl 0 rfl) ?_
        refine lv_iconst (v := 2) hx hb d2_write_66 (by decide) ?_
        refine lv_iadd hx hb d2_write_67 ?_
        refine lv_iload_n hx hb d2_write_68 rfl (lv_at hl 6 rfl) ?_
        refine sr_iast hx hb hK hB (hX.2.1 (1) (show 1 < 2 by (have kc_1 := lt_i c_1); (have l0 : (0 : Int32).toInt = 0 := rfl); (have l1 : (1 : Int32).toInt = 1 := rfl); (have l300 : (300 : Int32).toInt = 300 := rfl); (have l6 : (6 : Int32).toInt = 6 := rfl);  omega)) rfl rfl (by (have kc_1 := lt_i c_1); (have l0 : (0 : Int32).toInt = 0 := rfl); (have l1 : (1 : Int32).toInt = 1 := rfl); (have l300 : (300 : Int32).toInt = 300 := rfl); (have l6 : (6 : Int32).toInt = 6 := rfl);  exact ix6_in (x := (S 6 0 1)) (j := 2) (by omega) (by omega) (by omega) (show _ < ((1800 : Nat) : Int) by omega)) d2_write_69 (fun H locs hB => ?_)
        rw [show ((6 * (S 6 0 1)) + 2).toNatClampNeg = 6 * (S 6 0 1).toNatClampNeg + 2 from by (have kc_1 := lt_i c_1); (have l0 : (0 : Int32).toInt = 0 := rfl); (have l1 : (1 : Int32).toInt = 1 := rfl); (have l300 : (300 : Int32).toInt = 300 := rfl); (have l6 : (6 : Int32).toInt = 6 := rfl);  exact ix6 (x := (S 6 0 1)) (j := 2) (by omega) (by omega) (by omega)] at hB
        refine lv_aload hx hb d2_write_70 (lv_at hl 1 rfl) ?_
        refine lv_iload hx hb d2_write_72 (lv_at hl 0 rfl) ?_
        refine lv_iconst (v := 3) hx hb d2_write_74 (by decide) ?_
        refine lv_iadd hx hb d2_write_75 ?_
        refine lv_iload hx hb d2_write_76 (lv_at hl 7 rfl) ?_
        refine sr_iast hx hb hK hB (hX.2.1 (1) (show 1 < 2 by (have kc_1 := lt_i c_1); (have l0 : (0 : Int32).toInt = 0 := rfl); (have l1 : (1 : Int32).toInt = 1 := rfl); (have l300 : (300 : Int32).toInt = 300 := rfl); (have l6 : (6 : Int32).toInt = 6 := rfl);  omega)) rfl rfl (by (have kc_1 := lt_i c_1); (have l0 : (0 : Int32).toInt = 0 := rfl); (have l1 : (1 : Int32).toInt = 1 := rfl); (have l300 : (300 : Int32).toInt = 300 := rfl); (have l6 : (6 : Int32).toInt = 6 := rfl);  exact ix6_in (x := (S 6 0 1)) (j := 3) (by omega) (by omega) (by omega) (show _ < ((1800 : Nat) : Int) by omega)) d2_write_78 (fun H locs hB => ?_)
        rw [show ((6 * (S 6 0 1)) + 3).toNatClampNeg = 6 * (S 6 0 1).toNatClampNeg + 3 from by (have kc_1 := lt_i c_1); (have l0 : (0 : Int32).toInt = 0 := rfl); (have l1 : (1 : Int32).toInt = 1 := rfl); (have l300 : (300 : Int32).toInt = 300 := rfl); (have l6 : (6 : Int32).toInt = 6 := rfl);  exact ix6 (x := (S 6 0 1)) (j := 3) (by omega) (by omega) (by omega)] at hB
        refine lv_aload hx hb d2_write_79 (lv_at hl 1 rfl) ?_
        refine lv_iload hx hb d2_write_81 (lv_at hl 0 rfl) ?_
        refine lv_iconst (v := 4) hx hb d2_write_83 (by decide) ?_
        refine lv_iadd hx hb d2_write_84 ?_
        refine lv_iload hx hb d2_write_85 (lv_at hl 8 rfl) ?_
        refine sr_iast hx hb hK hB (hX.2.1 (1) (show 1 < 2 by (have kc_1 := lt_i c_1); (have l0 : (0 : Int32).toInt = 0 := rfl); (have l1 : (1 : Int32).toInt = 1 := rfl); (have l300 : (300 : Int32).toInt = 300 := rfl); (have l6 : (6 : Int32).toInt = 6 := rfl);  omega)) rfl rfl (by (have kc_1 := lt_i c_1); (have l0 : (0 : Int32).toInt = 0 := rfl); (have l1 : (1 : Int32).toInt = 1 := rfl); (have l300 : (300 : Int32).toInt = 300 := rfl); (have l6 : (6 : Int32).toInt = 6 := rfl);  exact ix6_in (x := (S 6 0 1)) (j := 4) (by omega) (by omega) (by omega) (show _ < ((1800 : Nat) : Int) by omega)) d2_write_87 (fun H locs hB => ?_)
        rw [show ((6 * (S 6 0 1)) + 4).toNatClampNeg = 6 * (S 6 0 1).toNatClampNeg + 4 from by (have kc_1 := lt_i c_1); (have l0 : (0 : Int32).toInt = 0 := rfl); (have l1 : (1 : Int32).toInt = 1 := rfl); (have l300 : (300 : Int32).toInt = 300 := rfl); (have l6 : (6 : Int32).toInt = 6 := rfl);  exact ix6 (x := (S 6 0 1)) (j := 4) (by omega) (by omega) (by omega)] at hB
        refine lv_aload hx hb d2_write_88 (lv_at hl 1 rfl) ?_
        refine lv_iload hx hb d2_write_90 (lv_at hl 0 rfl) ?_
        refine lv_iconst (v := 5) hx hb d2_write_92 (by decide) ?_
        refine lv_iadd hx hb d2_write_93 ?_
        refine lv_iload hx hb d2_write_94 (lv_at hl 9 rfl) ?_
        refine sr_iast hx hb hK hB (hX.2.1 (1) (show 1 < 2 by (have kc_1 := lt_i c_1); (have l0 : (0 : Int32).toInt = 0 := rfl); (have l1 : (1 : Int32).toInt = 1 := rfl); (have l300 : (300 : Int32).toInt = 300 := rfl); (have l6 : (6 : Int32).toInt = 6 := rfl);  omega)) rfl rfl (by (have kc_1 := lt_i c_1); (have l0 : (0 : Int32).toInt = 0 := rfl); (have l1 : (1 : Int32).toInt = 1 := rfl); (have l300 : (300 : Int32).toInt = 300 := rfl); (have l6 : (6 : Int32).toInt = 6 := rfl);  exact ix6_in (x := (S 6 0 1)) (j := 5) (by omega) (by omega) (by omega) (show _ < ((1800 : Nat) : Int) by omega)) d2_write_96 (fun H locs hB => ?_)
        rw [show ((6 * (S 6 0 1)) + 5).toNatClampNeg = 6 * (S 6 0 1).toNatClampNeg + 5 from by (have kc_1 := lt_i c_1); (have l0 : (0 : Int32).toInt = 0 := rfl); (have l1 : (1 : Int32).toInt = 1 := rfl); (have l300 : (300 : Int32).toInt = 300 := rfl); (have l6 : (6 : Int32).toInt = 6 := rfl);  exact ix6 (x := (S 6 0 1)) (j := 5) (by omega) (by omega) (by omega)] at hB
        refine lv_iinc (v := 2) (lv' := [(7, .int 2), (9, .int (6 * (S 6 0 1))), (8, .ref (ad 11 1)), (0, .ref (ad 6 0)), (1, .int x1), (2, .int x2), (3, .int x3), (4, .int x4), (5, .int x5), (6, .int x6)]) hx hb d2_write_97 hl (k := 2) rfl (by decide) (by decide) rfl (fun ls hl => ?_)
        refine lv_goto (tgt := 14) hx hb d2_write_100 (by decide) ?_
        refine lv_iload hx hb d2_write_14 (lv_at hl 0 rfl) ?_
        refine lv_iconst (v := 2) hx hb d2_write_16 (by decide) ?_
        refine lv_icmp_ge (tgt := 103) hx hb d2_write_17 (by decide) (fun _ => ?_) (fun c => absurd (by decide) c)
        refine lv_aload_n hx hb d2_write_103 rfl (lv_at hl 3 rfl) ?_
        refine lv_dup hx hb d2_write_104 rfl ?_
        refine sr_get (v := .int (S 6 0 1)) hx hb hw hown hK hB 1 (hX.1 6 (by decide)) cf_6 us2 (by decide) fl_2_15 (rfl) d2_write_105 ?_
        refine lv_iconst (v := 1) hx hb d2_write_108 (by decide) ?_
        refine lv_iadd hx hb d2_write_109 ?_
        refine sr_put hx hb hw hown hK hB 1 (hX.1 6 (by decide)) cf_6 us2 tk2 nm2 (by decide) fl_2_15 rfl rfl rfl rfl d2_write_110 (fun H locs hB => ?_)
        exact se_v C0 hB (by rw [if_pos c_1, if_pos c_3, if_pos c_9] at hO; exact hO) d2_write_113
  · exact se_v C0 hB (by rw [if_neg c_1] at hO; exact hO) d2_write_10
theorem hd2_write : y2_write.cls = R2 ∧ y2_write.cls ≠ "java/lang/invoke/MethodHandle" ∧ y2_write.cls ≠ "java/lang/invoke/VarHandle" ∧ (parseMethodDescriptor y2_write.desc).map (fun d => d.parameters.length) = some 6 := ⟨rfl, by decide, by decide, by decide +kernel⟩
theorem m2_write {l : Launch} {D : va_G} {aC : Nat → ClassId} {ad : Nat → Nat → Nat} {X : Nat → Nat → Prop} {S A : sS} {G : sG} (hX : xC X G) (x1 : Int32) (x2 : Int32) (x3 : Int32) (x4 : Int32) (x5 : Int32) (x6 : Int32) (hsz : 0 ≤ (S 6 0 1).toInt ∧ (S 6 0 1).toInt ≤ 300) : Met l y2_write (.code y2_write b2_write 10 none :: wall) (rmk 0) (s_Pc [.ref (ad 6 0), .int x1, .int x2, .int x3, .int x4, .int x5, .int x6] D aC ad X S A G) (s_Qv D aC ad X G (O2_write S A G x1 x2 x3 x4 x5 x6)) 0 0 (s_N ad X) :=
  s_met (by decide) rfl (Nat.le_of_ble_eq_true rfl) (fun p e s m args below meth c C0 hB ls hl => k2_write_0 C0 hB hX x1 x2 x3 x4 x5 x6 hsz hl rfl)

def V2_read (S A : sS) (G : sG) (x1 : Int32) (x2 : Int32) : Int32 := if A 9 0 0 = 0 then A 11 0 (((6 * x1) + x2).toNatClampNeg) else A 11 1 (((6 * x1) + x2).toNatClampNeg)
set_option maxRecDepth 100000 in
set_option maxHeartbeats 4000000 in
theorem k2_read_0 {p : Program} {l : Launch} {e : Env} {s : State} {m : MethodId} {args : Array Value} {below : List Frame} {meth : Method} {c : Code} {D : va_G} {aC : Nat → ClassId} {ad : Nat → Nat → Nat} {X : Nat → Nat → Prop} {S A : sS} {G : sG} (C0 : s_C p s m args meth c b2_read 3 R2 (some .int) D aC) (hB : s_B D aC ad X (s_N ad X) S A G s.heap s.heap []) (hX : xC X G) (x1 : Int32) (x2 : Int32) (hi : 0 ≤ x1.toInt ∧ x1.toInt < 300) (hp : 0 ≤ x2.toInt ∧ x2.toInt < 6) {ls : Array Slot} (hl : lv_has ls 3 [(0, .ref (ad 6 0)), (1, .int x1), (2, .int x2)]) {o : Int32} (hO : V2_read S A G x1 x2 = o) : W p l e (rmk 0) s m args below meth c s.heap [] 0 0 (MQ below (s_Qp o) args s 0 0 (fun _ => False)) (F0 m 0 ls []) := by
  obtain ⟨hx, hb, hml, hown, hw, hK, hr, hlocks⟩ := id C0
  unfold V2_read at hO
  refine lv_aload_n hx hb d2_read_0 rfl (lv_at hl 0 rfl) ?_
  refine sr_get (v := .ref (ad 10 0)) hx hb hw hown hK hB 2 (hX.1 6 (by decide)) cf_6 us2 (by decide) fl_2_21 (rfl) d2_read_1 ?_
  refine lv_aload_n hx hb d2_read_4 rfl (lv_at hl 0 rfl) ?_
  refine sr_get (v := .ref (ad 9 0)) hx hb hw hown hK hB 0 (hX.1 6 (by decide)) cf_6 us2 (by decide) fl_2_11 (rfl) d2_read_5 ?_
  refine lv_iconst (v := 0) hx hb d2_read_8 (by decide) ?_
  refine sr_zald (v := A 9 0 0) hx hb hK hB (hX.1 9 (by decide)) rfl rfl (by (refine vp_in_iff.mpr ?_); decide) d2_read_9 (rfl) ?_
  refine lv_if_eq (tgt := 17) hx hb d2_read_10 (by decide) (fun c_1 => ?_) (fun c_1 => ?_)
  · refine lv_iconst (v := 0) hx hb d2_read_17 (by decide) ?_
    refine sr_aald (v := some 0) hx hb hK hB (hX.1 10 (by decide)) rfl rfl rfl (by (refine vp_in_iff.mpr ?_); decide) d2_read_18 (by exact gc hX (show 0 < 2 by  omega)) ?_
    refine lv_iload_n hx hb d2_read_19 rfl (lv_at hl 1 rfl) ?_
    refine lv_bipush (v := 6) hx hb d2_read_20 (by decide) ?_
    refine lv_imul hx hb d2_read_22 ?_
    refine sr_top (y := 6 * x1) (Int32.mul_comm _ _) ?_
    refine lv_iload_n hx hb d2_read_23 rfl (lv_at hl 2 rfl) ?_
    refine lv_iadd hx hb d2_read_24 ?_
    refine sr_iald (v := A 11 0 (((6 * x1) + x2).toNatClampNeg)) hx hb hK hB (hX.2.1 (0) (show 0 < 2 by  omega)) rfl rfl (by (refine vp_in_iff.mpr ?_); (show 0 ≤ ((6 * x1) + x2).toInt ∧ ((6 * x1) + x2).toInt < ((1800 : Nat) : Int)); (have b1 := mul6_i (x := x1) (by omega) (by omega)); (have b2 := add_i (x := 6 * x1) (y := x2) (by omega) (by omega));  omega) d2_read_25 (rfl) ?_
    exact se_pi C0 (by rw [if_pos c_1] at hO; exact hO) d2_read_26
  · refine lv_iconst (v := 1) hx hb d2_read_13 (by decide) ?_
    refine lv_goto (tgt := 18) hx hb d2_read_14 (by decide) ?_
    refine sr_aald (v := some 1) hx hb hK hB (hX.1 10 (by decide)) rfl rfl rfl (by (refine vp_in_iff.mpr ?_); decide) d2_read_18 (by exact gc hX (show 1 < 2 by  omega)) ?_
    refine lv_iload_n hx hb d2_read_19 rfl (lv_at hl 1 rfl) ?_
    refine lv_bipush (v := 6) hx hb d2_read_20 (by decide) ?_
    refine lv_imul hx hb d2_read_22 ?_
    refine sr_top (y := 6 * x1) (Int32.mul_comm _ _) ?_
    refine lv_iload_n hx hb d2_read_23 rfl (lv_at hl 2 rfl) ?_
    refine lv_iadd hx hb d2_read_24 ?_
    refine sr_iald (v := A 11 1 (((6 * x1) + x2).toNatClampNeg)) hx hb hK hB (hX.2.1 (1) (show 1 < 2 by  omega)) rfl rfl (by (refine vp_in_iff.mpr ?_); (show 0 ≤ ((6 * x1) + x2).toInt ∧ ((6 * x1) + x2).toInt < ((1800 : Nat) : Int)); (have b1 := mul6_i (x := x1) (by omega) (by omega)); (have b2 := add_i (x := 6 * x1) (y := x2) (by omega) (by omega));  omega) d2_read_25 (rfl) ?_
    exact se_pi C0 (by rw [if_neg c_1] at hO; exact hO) d2_read_26
theorem hd2_read : y2_read.cls = R2 ∧ y2_read.cls ≠ "java/lang/invoke/MethodHandle" ∧ y2_read.cls ≠ "java/lang/invoke/VarHandle" ∧ (parseMethodDescriptor y2_read.desc).map (fun d => d.parameters.length) = some 2 := ⟨rfl, by decide, by decide, by decide +kernel⟩
theorem m2_read {l : Launch} {D : va_G} {aC : Nat → ClassId} {ad : Nat → Nat → Nat} {X : Nat → Nat → Prop} {S A : sS} {G : sG} (hX : xC X G) (x1 : Int32) (x2 : Int32) (hi : 0 ≤ x1.toInt ∧ x1.toInt < 300) (hp : 0 ≤ x2.toInt ∧ x2.toInt < 6) : Met l y2_read (.code y2_read b2_read 3 (some .int) :: wall) (rmk 0) (s_Pc [.ref (ad 6 0), .int x1, .int x2] D aC ad X S A G) (s_Qp (V2_read S A G x1 x2)) 0 0 (fun _ => False) :=
  s_met (by decide) rfl (Nat.le_of_ble_eq_true rfl) (fun p e s m args below meth c C0 hB ls hl => k2_read_0 C0 hB hX x1 x2 hi hp hl rfl)

def O2_makeWhole (S A : sS) (G : sG)  : sS × sS := if A 9 0 0 = 0 then if A 9 0 1 = 0 then (S, A) else (S, (up3 (cpA A 11 0 1 ((6 * (S 6 0 1)).toNatClampNeg)) 9 0 1 0)) else if (up3 A 9 0 0 0) 9 0 1 = 0 then (S, (up3 (cpA A 11 1 0 ((6 * (S 6 0 1)).toNatClampNeg)) 9 0 0 0)) else (S, (up3 (cpA (up3 (cpA A 11 1 0 ((6 * (S 6 0 1)).toNatClampNeg)) 9 0 0 0) 11 0 1 ((6 * (S 6 0 1)).toNatClampNeg)) 9 0 1 0))
set_option maxRecDepth 100000 in
set_option maxHeartbeats 4000000 in
theorem k2_makeWhole_0 {p : Program} {l : Launch} {e : Env} {s : State} {m : MethodId} {args : Array Value} {below : List Frame} {meth : Method} {c : Code} {D : va_G} {aC : Nat → ClassId} {ad : Nat → Nat → Nat} {X : Nat → Nat → Prop} {S A : sS} {G : sG} {H : Heap} {locs : List Loc} (C0 : s_C p s m args meth c b2_makeWhole 2 R2 none D aC) (hB : s_B D aC ad X (s_N ad X) S A G s.heap H locs) (hX : xC X G)  (hsz : 0 ≤ (S 6 0 1).toInt ∧ (S 6 0 1).toInt ≤ 300) {ls : Array Slot} (hl : lv_has ls 2 [(0, .ref (ad 6 0))]) {o : sS × sS} (hO : O2_makeWhole S A G  = o) : W p l e (rmk 1) s m args below meth c H locs 0 0 (MQ below (s_Qv D aC ad X G o) args s 0 0 (s_N ad X)) (F0 m 0 ls []) := by
  obtain ⟨hx, hb, hml, hown, hw, hK, hr, hlocks⟩ := id C0
  unfold O2_makeWhole at hO
  refine lv_iconst (v := 0) hx hb d2_makeWhole_0 (by decide) ?_
  refine lv_istore_n (lv' := [(1, .int 0), (0, .ref (ad 6 0))]) hx hb d2_makeWhole_1 rfl hl (by decide) rfl (fun ls hl => ?_)
  refine lv_iload_n hx hb d2_makeWhole_2 rfl (lv_at hl 0 rfl) ?_
  refine lv_iconst (v := 2) hx hb d2_makeWhole_3 (by decide) ?_
  refine lv_icmp_ge (tgt := 55) hx hb d2_makeWhole_4 (by decide) (fun c => absurd c (by decide)) (fun _ => ?_)
  refine lv_aload_n hx hb d2_makeWhole_7 rfl (lv_at hl 1 rfl) ?_
  refine sr_get (v := .ref (ad 9 0)) hx hb hw hown hK hB 0 (hX.1 6 (by decide)) cf_6 us2 (by decide) fl_2_11 (rfl) d2_makeWhole_8 ?_
  refine lv_iload_n hx hb d2_makeWhole_11 rfl (lv_at hl 0 rfl) ?_
  refine sr_zald (v := A 9 0 0) hx hb hK hB (hX.1 9 (by decide)) rfl rfl (by (refine vp_in_iff.mpr ?_); decide) d2_makeWhole_12 (rfl) ?_
  refine lv_if_eq (tgt := 49) hx hb d2_makeWhole_13 (by decide) (fun c_2 => ?_) (fun c_2 => ?_)
  · refine lv_iinc (v := 1) (lv' := [(1, .int 1), (0, .ref (ad 6 0))]) hx hb d2_makeWhole_49 hl (k := 0) rfl (by decide) (by decide) rfl (fun ls hl => ?_)
    refine lv_goto (tgt := 2) hx hb d2_makeWhole_52 (by decide) ?_
    refine lv_iload_n hx hb d2_makeWhole_2 rfl (lv_at hl 0 rfl) ?_
    refine lv_iconst (v := 2) hx hb d2_makeWhole_3 (by decide) ?_
    refine lv_icmp_ge (tgt := 55) hx hb d2_makeWhole_4 (by decide) (fun c => absurd c (by decide)) (fun _ => ?_)
    refine lv_aload_n hx hb d2_makeWhole_7 rfl (lv_at hl 1 rfl) ?_
    refine sr_get (v := .ref (ad 9 0)) hx hb hw hown hK hB 0 (hX.1 6 (by decide)) cf_6 us2 (by decide) fl_2_11 (rfl) d2_makeWhole_8 ?_
    refine lv_iload_n hx hb d2_makeWhole_11 rfl (lv_at hl 0 rfl) ?_
    refine sr_zald (v := A 9 0 1) hx hb hK hB (hX.1 9 (by decide)) rfl rfl (by (refine vp_in_iff.mpr ?_); decide) d2_makeWhole_12 (rfl) ?_
    refine lv_if_eq (tgt := 49) hx hb d2_makeWhole_13 (by decide) (fun c_4 => ?_) (fun c_4 => ?_)
    · refine lv_iinc (v := 2) (lv' := [(1, .int 2), (0, .ref (ad 6 0))]) hx hb d2_makeWhole_49 hl (k := 0) rfl (by decide) (by decide) rfl (fun ls hl => ?_)
      refine lv_goto (tgt := 2) hx hb d2_makeWhole_52 (by decide) ?_
      refine lv_iload_n hx hb d2_makeWhole_2 rfl (lv_at hl 0 rfl) ?_
      refine lv_iconst (v := 2) hx hb d2_makeWhole_3 (by decide) ?_
      refine lv_icmp_ge (tgt := 55) hx hb d2_makeWhole_4 (by decide) (fun _ => ?_) (fun c => absurd (by decide) c)
      exact se_v C0 hB (by rw [if_pos c_2, if_pos c_4] at hO; exact hO) d2_makeWhole_55
    · refine lv_aload_n hx hb d2_makeWhole_16 rfl (lv_at hl 1 rfl) ?_
      refine sr_get (v := .ref (ad 10 0)) hx hb hw hown hK hB 2 (hX.1 6 (by decide)) cf_6 us2 (by decide) fl_2_21 (rfl) d2_makeWhole_17 ?_
      refine lv_iconst (v := 1) hx hb d2_makeWhole_20 (by decide) ?_
      refine lv_iload_n hx hb d2_makeWhole_21 rfl (lv_at hl 0 rfl) ?_
      refine lv_isub hx hb d2_makeWhole_22 ?_
      refine sr_top (y := 0) (by decide) ?_
      refine sr_aald (v := some 0) hx hb hK hB (hX.1 10 (by decide)) rfl rfl rfl (by (refine vp_in_iff.mpr ?_); decide) d2_makeWhole_23 (by exact gc hX (show 0 < 2 by  omega)) ?_
      refine lv_iconst (v := 0) hx hb d2_makeWhole_24 (by decide) ?_
      refine lv_aload_n hx hb d2_makeWhole_25 rfl (lv_at hl 1 rfl) ?_
      refine sr_get (v := .ref (ad 10 0)) hx hb hw hown hK hB 2 (hX.1 6 (by decide)) cf_6 us2 (by decide) fl_2_21 (rfl) d2_makeWhole_26 ?_
      refine lv_iload_n hx hb d2_makeWhole_29 rfl (lv_at hl 0 rfl) ?_
      refine sr_aald (v := some 1) hx hb hK hB (hX.1 10 (by decide)) rfl rfl rfl (by (refine vp_in_iff.mpr ?_); decide) d2_makeWhole_30 (by exact gc hX (show 1 < 2 by  omega)) ?_
      refine lv_iconst (v := 0) hx hb d2_makeWhole_31 (by decide) ?_
      refine lv_aload_n hx hb d2_makeWhole_32 rfl (lv_at hl 1 rfl) ?_
      refine sr_get (v := .int (S 6 0 1)) hx hb hw hown hK hB 1 (hX.1 6 (by decide)) cf_6 us2 (by decide) fl_2_15 (rfl) d2_makeWhole_33 ?_
      refine lv_bipush (v := 6) hx hb d2_makeWhole_36 (by decide) ?_
      refine lv_imul hx hb d2_makeWhole_38 ?_
      refine sr_top (y := 6 * (S 6 0 1)) (Int32.mul_comm _ _) ?_
      refine sr_copy (n0 := 0) (n1 := 1) C0 hB (hX.2.1 (0) (show 0 < 2 by  omega)) (hX.2.1 (1) (show 1 < 2 by  omega)) rfl rfl (by (have b1 := mul6_i (x := S 6 0 1) (by omega) (by omega));  omega) (by (have b1 := mul6_i (x := S 6 0 1) (by omega) (by omega));  (show _ ≤ ((1800 : Nat) : Int)); omega) ml_2_24 na_Y_arraycopy st_Y_arraycopy in_Y (by decide) (Nat.le_of_ble_eq_true rfl) hl.1 d2_makeWhole_39 (fun H locs hB => ?_)
      refine lv_aload_n hx hb d2_makeWhole_42 rfl (lv_at hl 1 rfl) ?_
      refine sr_get (v := .ref (ad 9 0)) hx hb hw hown hK hB 0 (hX.1 6 (by decide)) cf_6 us2 (by decide) fl_2_11 (rfl) d2_makeWhole_43 ?_
      refine lv_iload_n hx hb d2_makeWhole_46 rfl (lv_at hl 0 rfl) ?_
      refine lv_iconst (v := 0) hx hb d2_makeWhole_47 (by decide) ?_
      refine sr_zast hx hb hK hB (hX.1 9 (by decide)) rfl rfl rfl (by (refine vp_in_iff.mpr ?_); decide) d2_makeWhole_48 (fun H locs hB => ?_)
      have hB : s_B D aC ad X (s_N ad X) S (up3 (cpA A 11 0 1 ((6 * (S 6 0 1)).toNatClampNeg)) 9 0 1 0) G s.heap H locs := hB
      refine lv_iinc (v := 2) (lv' := [(1, .int 2), (0, .ref (ad 6 0))]) hx hb d2_makeWhole_49 hl (k := 0) rfl (by decide) (by decide) rfl (fun ls hl => ?_)
      refine lv_goto (tgt := 2) hx hb d2_makeWhole_52 (by decide) ?_
      refine lv_iload_n hx hb d2_makeWhole_2 rfl (lv_at hl 0 rfl) ?_
      refine lv_iconst (v := 2) hx hb d2_makeWhole_3 (by decide) ?_
      refine lv_icmp_ge (tgt := 55) hx hb d2_makeWhole_4 (by decide) (fun _ => ?_) (fun c => absurd (by decide) c)
      exact se_v C0 hB (by rw [if_pos c_2, if_neg c_4] at hO; exact hO) d2_makeWhole_55
  · refine lv_aload_n hx hb d2_makeWhole_16 rfl (lv_at hl 1 rfl) ?_
    refine sr_get (v := .ref (ad 10 0)) hx hb hw hown hK hB 2 (hX.1 6 (by decide)) cf_6 us2 (by decide) fl_2_21 (rfl) d2_makeWhole_17 ?_
    refine lv_iconst (v := 1) hx hb d2_makeWhole_20 (by decide) ?_
    refine lv_iload_n hx hb d2_makeWhole_21 rfl (lv_at hl 0 rfl) ?_
    refine lv_isub hx hb d2_makeWhole_22 ?_
    refine sr_top (y := 1) (by decide) ?_
    refine sr_aald (v := some 1) hx hb hK hB (hX.1 10 (by decide)) rfl rfl rfl (by (refine vp_in_iff.mpr ?_); decide) d2_makeWhole_23 (by exact gc hX (show 1 < 2 by  omega)) ?_
    refine lv_iconst (v := 0) hx hb d2_makeWhole_24 (by decide) ?_
    refine lv_aload_n hx hb d2_makeWhole_25 rfl (lv_at hl 1 rfl) ?_
    refine sr_get (v := .ref (ad 10 0)) hx hb hw hown hK hB 2 (hX.1 6 (by decide)) cf_6 us2 (by decide) fl_2_21 (rfl) d2_makeWhole_26 ?_
    refine lv_iload_n hx hb d2_makeWhole_29 rfl (lv_at hl 0 rfl) ?_
    refine sr_aald (v := some 0) hx hb hK hB (hX.1 10 (by decide)) rfl rfl rfl (by (refine vp_in_iff.mpr ?_); decide) d2_makeWhole_30 (by exact gc hX (show 0 < 2 by  omega)) ?_
    refine lv_iconst (v := 0) hx hb d2_makeWhole_31 (by decide) ?_
    refine lv_aload_n hx hb d2_makeWhole_32 rfl (lv_at hl 1 rfl) ?_
    refine sr_get (v := .int (S 6 0 1)) hx hb hw hown hK hB 1 (hX.1 6 (by decide)) cf_6 us2 (by decide) fl_2_15 (rfl) d2_makeWhole_33 ?_
    refine lv_bipush (v := 6) hx hb d2_makeWhole_36 (by decide) ?_
    refine lv_imul hx hb d2_makeWhole_38 ?_
    refine sr_top (y := 6 * (S 6 0 1)) (Int32.mul_comm _ _) ?_
    refine sr_copy (n0 := 1) (n1 := 0) C0 hB (hX.2.1 (1) (show 1 < 2 by  omega)) (hX.2.1 (0) (show 0 < 2 by  omega)) rfl rfl (by (have b1 := mul6_i (x := S 6 0 1) (by omega) (by omega));  omega) (by (have b1 := mul6_i (x := S 6 0 1) (by omega) (by omega));  (show _ ≤ ((1800 : Nat) : Int)); omega) ml_2_24 na_Y_arraycopy st_Y_arraycopy in_Y (by decide) (Nat.le_of_ble_eq_true rfl) hl.1 d2_makeWhole_39 (fun H locs hB => ?_)
    refine lv_aload_n hx hb d2_makeWhole_42 rfl (lv_at hl 1 rfl) ?_
    refine sr_get (v := .ref (ad 9 0)) hx hb hw hown hK hB 0 (hX.1 6 (by decide)) cf_6 us2 (by decide) fl_2_11 (rfl) d2_makeWhole_43 ?_
    refine lv_iload_n hx hb d2_makeWhole_46 rfl (lv_at hl 0 rfl) ?_
    refine lv_iconst (v := 0) hx hb d2_makeWhole_47 (by decide) ?_
    refine sr_zast hx hb hK hB (hX.1 9 (by decide)) rfl rfl rfl (by (refine vp_in_iff.mpr ?_); decide) d2_makeWhole_48 (fun H locs hB => ?_)
    have hB : s_B D aC ad X (s_N ad X) S (up3 (cpA A 11 1 0 ((6 * (S 6 0 1)).toNatClampNeg)) 9 0 0 0) G s.heap H locs := hB
    refine lv_iinc (v := 1) (lv' := [(1, .int 1), (0, .ref (ad 6 0))]) hx hb d2_makeWhole_49 hl (k := 0) rfl (by decide) (by decide) rfl (fun ls hl => ?_)
    refine lv_goto (tgt := 2) hx hb d2_makeWhole_52 (by decide) ?_
    refine lv_iload_n hx hb d2_makeWhole_2 rfl (lv_at hl 0 rfl) ?_
    refine lv_iconst (v := 2) hx hb d2_makeWhole_3 (by decide) ?_
    refine lv_icmp_ge (tgt := 55) hx hb d2_makeWhole_4 (by decide) (fun c => absurd c (by decide)) (fun _ => ?_)
    refine lv_aload_n hx hb d2_makeWhole_7 rfl (lv_at hl 1 rfl) ?_
    refine sr_get (v := .ref (ad 9 0)) hx hb hw hown hK hB 0 (hX.1 6 (by decide)) cf_6 us2 (by decide) fl_2_11 (rfl) d2_makeWhole_8 ?_
    refine lv_iload_n hx hb d2_makeWhole_11 rfl (lv_at hl 0 rfl) ?_
    refine sr_zald (v := (up3 A 9 0 0 0) 9 0 1) hx hb hK hB (hX.1 9 (by decide)) rfl rfl (by (refine vp_in_iff.mpr ?_); decide) d2_makeWhole_12 (rfl) ?_
    refine lv_if_eq (tgt := 49) hx hb d2_makeWhole_13 (by decide) (fun c_8 => ?_) (fun c_8 => ?_)
    · refine lv_iinc (v := 2) (lv' := [(1, .int 2), (0, .ref (ad 6 0))]) hx hb d2_makeWhole_49 hl (k := 0) rfl (by decide) (by decide) rfl (fun ls hl => ?_)
      refine lv_goto (tgt := 2) hx hb d2_makeWhole_52 (by decide) ?_
      refine lv_iload_n hx hb d2_makeWhole_2 rfl (lv_at hl 0 rfl) ?_
      refine lv_iconst (v := 2) hx hb d2_makeWhole_3 (by decide) ?_
      refine lv_icmp_ge (tgt := 55) hx hb d2_makeWhole_4 (by decide) (fun _ => ?_) (fun c => absurd (by decide) c)
      exact se_v C0 hB (by rw [if_neg c_2, if_pos c_8] at hO; exact hO) d2_makeWhole_55
    · refine lv_aload_n hx hb d2_makeWhole_16 rfl (lv_at hl 1 rfl) ?_
      refine sr_get (v := .ref (ad 10 0)) hx hb hw hown hK hB 2 (hX.1 6 (by decide)) cf_6 us2 (by decide) fl_2_21 (rfl) d2_makeWhole_17 ?_
      refine lv_iconst (v := 1) hx hb d2_makeWhole_20 (by decide) ?_
      refine lv_iload_n hx hb d2_makeWhole_21 rfl (lv_at hl 0 rfl) ?_
      refine lv_isub hx hb d2_makeWhole_22 ?_
      refine sr_top (y := 0) (by decide) ?_
      refine sr_aald (v := some 0) hx hb hK hB (hX.1 10 (by decide)) rfl rfl rfl (by (refine vp_in_iff.mpr ?_); decide) d2_makeWhole_23 (by exact gc hX (show 0 < 2 by  omega)) ?_
      refine lv_iconst (v := 0) hx hb d2_makeWhole_24 (by decide) ?_
      refine lv_aload_n hx hb d2_makeWhole_25 rfl (lv_at hl 1 rfl) ?_
      refine sr_get (v := .ref (ad 10 0)) hx hb hw hown hK hB 2 (hX.1 6 (by decide)) cf_6 us2 (by decide) fl_2_21 (rfl) d2_makeWhole_26 ?_
      refine lv_iload_n hx hb d2_makeWhole_29 rfl (lv_at hl 0 rfl) ?_
      refine sr_aald (v := some 1) hx hb hK hB (hX.1 10 (by decide)) rfl rfl rfl (by (refine vp_in_iff.mpr ?_); decide) d2_makeWhole_30 (by exact gc hX (show 1 < 2 by  omega)) ?_
      refine lv_iconst (v := 0) hx hb d2_makeWhole_31 (by decide) ?_
      refine lv_aload_n hx hb d2_makeWhole_32 rfl (lv_at hl 1 rfl) ?_
      refine sr_get (v := .int (S 6 0 1)) hx hb hw hown hK hB 1 (hX.1 6 (by decide)) cf_6 us2 (by decide) fl_2_15 (rfl) d2_makeWhole_33 ?_
      refine lv_bipush (v := 6) hx hb d2_makeWhole_36 (by decide) ?_
      refine lv_imul hx hb d2_makeWhole_38 ?_
      refine sr_top (y := 6 * (S 6 0 1)) (Int32.mul_comm _ _) ?_
      refine sr_copy (n0 := 0) (n1 := 1) C0 hB (hX.2.1 (0) (show 0 < 2 by  omega)) (hX.2.1 (1) (show 1 < 2 by  omega)) rfl rfl (by (have b1 := mul6_i (x := S 6 0 1) (by omega) (by omega));  omega) (by (have b1 := mul6_i (x := S 6 0 1) (by omega) (by omega));  (show _ ≤ ((1800 : Nat) : Int)); omega) ml_2_24 na_Y_arraycopy st_Y_arraycopy in_Y (by decide) (Nat.le_of_ble_eq_true rfl) hl.1 d2_makeWhole_39 (fun H locs hB => ?_)
      refine lv_aload_n hx hb d2_makeWhole_42 rfl (lv_at hl 1 rfl) ?_
      refine sr_get (v := .ref (ad 9 0)) hx hb hw hown hK hB 0 (hX.1 6 (by decide)) cf_6 us2 (by decide) fl_2_11 (rfl) d2_makeWhole_43 ?_
      refine lv_iload_n hx hb d2_makeWhole_46 rfl (lv_at hl 0 rfl) ?_
      refine lv_iconst (v := 0) hx hb d2_makeWhole_47 (by decide) ?_
      refine sr_zast hx hb hK hB (hX.1 9 (by decide)) rfl rfl rfl (by (refine vp_in_iff.mpr ?_); decide) d2_makeWhole_48 (fun H locs hB => ?_)
      have hB : s_B D aC ad X (s_N ad X) S (up3 (cpA (up3 (cpA A 11 1 0 ((6 * (S 6 0 1)).toNatClampNeg)) 9 0 0 0) 11 0 1 ((6 * (S 6 0 1)).toNatClampNeg)) 9 0 1 0) G s.heap H locs := hB
      refine lv_iinc (v := 2) (lv' := [(1, .int 2), (0, .ref (ad 6 0))]) hx hb d2_makeWhole_49 hl (k := 0) rfl (by decide) (by decide) rfl (fun ls hl => ?_)
      refine lv_goto (tgt := 2) hx hb d2_makeWhole_52 (by decide) ?_
      refine lv_iload_n hx hb d2_makeWhole_2 rfl (lv_at hl 0 rfl) ?_
      refine lv_iconst (v := 2) hx hb d2_makeWhole_3 (by decide) ?_
      refine lv_icmp_ge (tgt := 55) hx hb d2_makeWhole_4 (by decide) (fun _ => ?_) (fun c => absurd (by decide) c)
      exact se_v C0 hB (by rw [if_neg c_2, if_neg c_8] at hO; exact hO) d2_makeWhole_55
theorem hd2_makeWhole : y2_makeWhole.cls = R2 ∧ y2_makeWhole.cls ≠ "java/lang/invoke/MethodHandle" ∧ y2_makeWhole.cls ≠ "java/lang/invoke/VarHandle" ∧ (parseMethodDescriptor y2_makeWhole.desc).map (fun d => d.parameters.length) = some 0 := ⟨rfl, by decide, by decide, by decide +kernel⟩
theorem m2_makeWhole {l : Launch} {D : va_G} {aC : Nat → ClassId} {ad : Nat → Nat → Nat} {X : Nat → Nat → Prop} {S A : sS} {G : sG} (hX : xC X G)  (hsz : 0 ≤ (S 6 0 1).toInt ∧ (S 6 0 1).toInt ≤ 300) : Met l y2_makeWhole (.code y2_makeWhole b2_makeWhole 2 none :: wall) (rmk 1) (s_Pc [.ref (ad 6 0)] D aC ad X S A G) (s_Qv D aC ad X G (O2_makeWhole S A G )) 0 0 (s_N ad X) :=
  s_met (by decide) rfl (Nat.le_of_ble_eq_true rfl) (fun p e s m args below meth c C0 hB ls hl => k2_makeWhole_0 C0 hB hX  hsz hl rfl)

def O2_readBooks_20 (G : sG)  : Nat → sS → sS → Nat → sS × sS
  | 0, S, A, _ => (S, A)
  | r + 1, S, A, j2 => if S 6 0 1 ≤ nI j2 then (S, A) else if V2_read S A G (nI j2) 3 < 0 then O2_readBooks_20 G  r S A (j2 + 1) else if 64 ≤ V2_read S A G (nI j2) 3 then O2_readBooks_20 G  r S A (j2 + 1) else O2_readBooks_20 G  r S (up3 A 8 0 ((V2_read S A G (nI j2) 3).toNatClampNeg) ((A 8 0 ((V2_read S A G (nI j2) 3).toNatClampNeg)) + (V2_change S A G (V2_read S A G (nI j2) 0) (V2_read S A G (nI j2) 4)))) (j2 + 1)
def O2_readBooks_2 (G : sG)  : Nat → sS → sS → Nat → sS × sS
  | 0, S, A, _ => (S, A)
  | r + 1, S, A, j2 => if 64 ≤ nI j2 then O2_readBooks_20 G  301 S A 0 else O2_readBooks_2 G  r S (up3 A 8 0 j2 0) (j2 + 1)
def O2_readBooks (S A : sS) (G : sG)  : sS × sS := O2_readBooks_2 G  65 S A 0
set_option maxRecDepth 100000 in
set_option maxHeartbeats 4000000 in
theorem k2_readBooks_20 {p : Program} {l : Launch} {e : Env} {s : State} {m : MethodId} {args : Array Value} {below : List Frame} {meth : Method} {c : Code} {D : va_G} {aC : Nat → ClassId} {ad : Nat → Nat → Nat} {X : Nat → Nat → Prop} {G : sG} (C0 : s_C p s m args meth c b2_readBooks 4 R2 none D aC) (hX : xC X G)  : ∀ (r : Nat) {S A : sS} {H : Heap} {locs : List Loc} (hB : s_B D aC ad X (s_N ad X) S A G s.heap H locs) (j2 : Nat) (hj : j2 ≤ 300) (hr3 : 300 < j2 + r) (hsz : 0 ≤ (S 6 0 1).toInt ∧ (S 6 0 1).toInt ≤ 300) {ls : Array Slot} (hl : lv_has ls 4 [(0, .ref (ad 6 0)), (1, .ref (ad 8 0)), (2, .int (nI j2))]) {o : sS × sS} (hO : O2_readBooks_20 G  r S A j2 = o), W p l e (rmk 1) s m args below meth c H locs 0 0 (MQ below (s_Qv D aC ad X G o) args s 0 0 (s_N ad X)) (F0 m 20 ls []) := by
  obtain ⟨hx, hb, hml, hown, hw, hK, hr, hlocks⟩ := id C0
  intro r
  induction r with
  | zero =>
    intro S A H locs hB j2 hj hr3 hsz ls hl o hO
    exact absurd hr3 (by omega)
  | succ r ih =>
    intro S A H locs hB j2 hj hr3 hsz ls hl o hO
    rw [O2_readBooks_20] at hO
    refine lv_iload_n hx hb d2_readBooks_20 rfl (lv_at hl 2 rfl) ?_
    refine lv_aload_n hx hb d2_readBooks_21 rfl (lv_at hl 0 rfl) ?_
    refine sr_get (v := .int (S 6 0 1)) hx hb hw hown hK hB 1 (hX.1 6 (by decide)) cf_6 us2 (by decide) fl_2_15 (rfl) d2_readBooks_22 ?_
    refine lv_icmp_ge (tgt := 72) hx hb d2_readBooks_25 (by decide) (fun c_1 => ?_) (fun c_1 => ?_)
    · exact se_v C0 hB (by rw [if_pos c_1] at hO; exact hO) d2_readBooks_72
    · refine lv_aload_n hx hb d2_readBooks_28 rfl (lv_at hl 0 rfl) ?_
      refine lv_iload_n hx hb d2_readBooks_29 rfl (lv_at hl 2 rfl) ?_
      refine lv_iconst (v := 3) hx hb d2_readBooks_30 (by decide) ?_
      refine sr_vp C0 hB (m2_read hX (nI j2) 3 (by (have aj2 := nI_toInt (n := j2) (by omega)); (have kc_1 := nle_i c_1); (have l0 : (0 : Int32).toInt = 0 := rfl); (have l1 : (1 : Int32).toInt = 1 := rfl); (have l6 : (6 : Int32).toInt = 6 := rfl);  (have q := nI_toInt (n := j2) (by omega)); omega) (by decide)) (hX.1 6 (by decide)) cf_6 ml_2_30 im_2_read se_2_read in_2 cd_2_read hd2_read ⟨⟨rfl, rfl⟩, by decide, by decide⟩ ⟨Nat.zero_le _, Nat.zero_le _⟩ hl.1 rfl (Nat.le_of_ble_eq_true rfl) d2_readBooks_31 ?_
      refine lv_istore_n (lv' := [(3, .int (V2_read S A G (nI j2) 3)), (0, .ref (ad 6 0)), (1, .ref (ad 8 0)), (2, .int (nI j2))]) hx hb d2_readBooks_34 rfl hl (by decide) rfl (fun ls hl => ?_)
      refine lv_iload_n hx hb d2_readBooks_35 rfl (lv_at hl 0 rfl) ?_
      refine lv_if_lt (tgt := 66) hx hb d2_readBooks_36 (by decide) (fun c_2 => ?_) (fun c_2 => ?_)
      · refine lv_iinc (v := nI (j2 + 1)) (lv' := [(2, .int (nI (j2 + 1))), (3, .int (V2_read S A G (nI j2) 3)), (0, .ref (ad 6 0)), (1, .ref (ad 8 0))]) hx hb d2_readBooks_66 hl (k := 3) rfl (nI_1 j2) (by decide) rfl (fun ls hl => ?_)
        refine lv_goto (tgt := 20) hx hb d2_readBooks_69 (by decide) ?_
        exact ih hB (j2 + 1) (by (have aj2 := nI_toInt (n := j2) (by omega)); (have kc_1 := nle_i c_1); (have kc_2 := lt_i c_2); (have l0 : (0 : Int32).toInt = 0 := rfl); (have l1 : (1 : Int32).toInt = 1 := rfl); (have l3 : (3 : Int32).toInt = 3 := rfl); (have l6 : (6 : Int32).toInt = 6 := rfl);  omega) (by (have aj2 := nI_toInt (n := j2) (by omega)); (have kc_1 := nle_i c_1); (have kc_2 := lt_i c_2); (have l0 : (0 : Int32).toInt = 0 := rfl); (have l1 : (1 : Int32).toInt = 1 := rfl); (have l3 : (3 : Int32).toInt = 3 := rfl); (have l6 : (6 : Int32).toInt = 6 := rfl);  omega) (by (have aj2 := nI_toInt (n := j2) (by omega)); (have kc_1 := nle_i c_1); (have kc_2 := lt_i c_2); (have l0 : (0 : Int32).toInt = 0 := rfl); (have l1 : (1 : Int32).toInt = 1 := rfl); (have l3 : (3 : Int32).toInt = 3 := rfl); (have l6 : (6 : Int32).toInt = 6 := rfl);  exact hsz) (lv_sub hl [2, 3, 0] rfl) (by rw [if_neg c_1, if_pos c_2] at hO; exact hO)
      · refine lv_iload_n hx hb d2_readBooks_39 rfl (lv_at hl 0 rfl) ?_
        refine lv_aload_n hx hb d2_readBooks_40 rfl (lv_at hl 2 rfl) ?_
        refine sr_alen (v := 64) hx hb hK hB (hX.1 8 (by decide)) (by decide) rfl rfl d2_readBooks_41 ?_
        refine lv_icmp_ge (tgt := 66) hx hb d2_readBooks_42 (by decide) (fun c_3 => ?_) (fun c_3 => ?_)
        · refine lv_iinc (v := nI (j2 + 1)) (lv' := [(2, .int (nI (j2 + 1))), (3, .int (V2_read S A G (nI j2) 3)), (0, .ref (ad 6 0)), (1, .ref (ad 8 0))]) hx hb d2_readBooks_66 hl (k := 3) rfl (nI_1 j2) (by decide) rfl (fun ls hl => ?_)
          refine lv_goto (tgt := 20) hx hb d2_readBooks_69 (by decide) ?_
          exact ih hB (j2 + 1) (by (have aj2 := nI_toInt (n := j2) (by omega)); (have kc_1 := nle_i c_1); (have kc_2 := nlt_i c_2); (have kc_3 := le_i c_3); (have l0 : (0 : Int32).toInt = 0 := rfl); (have l1 : (1 : Int32).toInt = 1 := rfl); (have l3 : (3 : Int32).toInt = 3 := rfl); (have l6 : (6 : Int32).toInt = 6 := rfl); (have l64 : (64 : Int32).toInt = 64 := rfl);  omega) (by (have aj2 := nI_toInt (n := j2) (by omega)); (have kc_1 := nle_i c_1); (have kc_2 := nlt_i c_2); (have kc_3 := le_i c_3); (have l0 : (0 : Int32).toInt = 0 := rfl); (have l1 : (1 : Int32).toInt = 1 := rfl); (have l3 : (3 : Int32).toInt = 3 := rfl); (have l6 : (6 : Int32).toInt = 6 := rfl); (have l64 : (64 : Int32).toInt = 64 := rfl);  omega) (by (have aj2 := nI_toInt (n := j2) (by omega)); (have kc_1 := nle_i c_1); (have kc_2 := nlt_i c_2); (have kc_3 := le_i c_3); (have l0 : (0 : Int32).toInt = 0 := rfl); (have l1 : (1 : Int32).toInt = 1 := rfl); (have l3 : (3 : Int32).toInt = 3 := rfl); (have l6 : (6 : Int32).toInt = 6 := rfl); (have l64 : (64 : Int32).toInt = 64 := rfl);  exact hsz) (lv_sub hl [2, 3, 0] rfl) (by rw [if_neg c_1, if_neg c_2, if_pos c_3] at hO; exact hO)
        · refine lv_aload_n hx hb d2_readBooks_45 rfl (lv_at hl 2 rfl) ?_
          refine lv_iload_n hx hb d2_readBooks_46 rfl (lv_at hl 0 rfl) ?_
          refine lv_dup2_11 hx hb d2_readBooks_47 rfl rfl ?_
          refine sr_iald (v := A 8 0 ((V2_read S A G (nI j2) 3).toNatClampNeg)) hx hb hK hB (hX.1 8 (by decide)) rfl rfl (by (refine vp_in_iff.mpr ?_); (show 0 ≤ (V2_read S A G (nI j2) 3).toInt ∧ (V2_read S A G (nI j2) 3).toInt < ((64 : Nat) : Int)); (have aj2 := nI_toInt (n := j2) (by omega)); (have kc_1 := nle_i c_1); (have kc_2 := nlt_i c_2); (have kc_3 := nle_i c_3); (have l0 : (0 : Int32).toInt = 0 := rfl); (have l1 : (1 : Int32).toInt = 1 := rfl); (have l3 : (3 : Int32).toInt = 3 := rfl); (have l6 : (6 : Int32).toInt = 6 := rfl); (have l64 : (64 : Int32).toInt = 64 := rfl);  omega) d2_readBooks_48 (rfl) ?_
          refine lv_aload_n hx hb d2_readBooks_49 rfl (lv_at hl 1 rfl) ?_
          refine lv_iload_n hx hb d2_readBooks_50 rfl (lv_at hl 3 rfl) ?_
          refine lv_iconst (v := 0) hx hb d2_readBooks_51 (by decide) ?_
          refine sr_vp C0 hB (m2_read hX (nI j2) 0 (by (have aj2 := nI_toInt (n := j2) (by omega)); (have kc_1 := nle_i c_1); (have kc_2 := nlt_i c_2); (have kc_3 := nle_i c_3); (have l0 : (0 : Int32).toInt = 0 := rfl); (have l1 : (1 : Int32).toInt = 1 := rfl); (have l3 : (3 : Int32).toInt = 3 := rfl); (have l6 : (6 : Int32).toInt = 6 := rfl); (have l64 : (64 : Int32).toInt = 64 := rfl);  (have q := nI_toInt (n := j2) (by omega)); omega) (by decide)) (hX.1 6 (by decide)) cf_6 ml_2_30 im_2_read se_2_read in_2 cd_2_read hd2_read ⟨⟨rfl, rfl⟩, by decide, by decide⟩ ⟨Nat.zero_le _, Nat.zero_le _⟩ hl.1 rfl (Nat.le_of_ble_eq_true rfl) d2_readBooks_52 ?_
          refine lv_aload_n hx hb d2_readBooks_55 rfl (lv_at hl 1 rfl) ?_
          refine lv_iload_n hx hb d2_readBooks_56 rfl (lv_at hl 3 rfl) ?_
          refine lv_iconst (v := 4) hx hb d2_readBooks_57 (by decide) ?_
          refine sr_vp C0 hB (m2_read hX (nI j2) 4 (by (have aj2 := nI_toInt (n := j2) (by omega)); (have kc_1 := nle_i c_1); (have kc_2 := nlt_i c_2); (have kc_3 := nle_i c_3); (have l0 : (0 : Int32).toInt = 0 := rfl); (have l1 : (1 : Int32).toInt = 1 := rfl); (have l3 : (3 : Int32).toInt = 3 := rfl); (have l6 : (6 : Int32).toInt = 6 := rfl); (have l64 : (64 : Int32).toInt = 64 := rfl);  (have q := nI_toInt (n := j2) (by omega)); omega) (by decide)) (hX.1 6 (by decide)) cf_6 ml_2_30 im_2_read se_2_read in_2 cd_2_read hd2_read ⟨⟨rfl, rfl⟩, by decide, by decide⟩ ⟨Nat.zero_le _, Nat.zero_le _⟩ hl.1 rfl (Nat.le_of_ble_eq_true rfl) d2_readBooks_58 ?_
          refine sr_sp C0 hB (m2_change hX (V2_read S A G (nI j2) 0) (V2_read S A G (nI j2) 4) ) ml_2_34 st_2_change in_2 cd_2_change hd2_change ⟨⟨rfl, rfl⟩, by decide, by decide⟩ ⟨Nat.zero_le _, Nat.zero_le _⟩ hl.1 rfl (Nat.le_of_ble_eq_true rfl) d2_readBooks_61 ?_
          refine lv_iadd hx hb d2_readBooks_64 ?_
          refine sr_iast hx hb hK hB (hX.1 8 (by decide)) rfl rfl (by (refine vp_in_iff.mpr ?_); (show 0 ≤ (V2_read S A G (nI j2) 3).toInt ∧ (V2_read S A G (nI j2) 3).toInt < ((64 : Nat) : Int)); (have aj2 := nI_toInt (n := j2) (by omega)); (have kc_1 := nle_i c_1); (have kc_2 := nlt_i c_2); (have kc_3 := nle_i c_3); (have l0 : (0 : Int32).toInt = 0 := rfl); (have l1 : (1 : Int32).toInt = 1 := rfl); (have l3 : (3 : Int32).toInt = 3 := rfl); (have l6 : (6 : Int32).toInt = 6 := rfl); (have l64 : (64 : Int32).toInt = 64 := rfl);  omega) d2_readBooks_65 (fun H locs hB => ?_)
          refine lv_iinc (v := nI (j2 + 1)) (lv' := [(2, .int (nI (j2 + 1))), (3, .int (V2_read S A G (nI j2) 3)), (0, .ref (ad 6 0)), (1, .ref (ad 8 0))]) hx hb d2_readBooks_66 hl (k := 3) rfl (nI_1 j2) (by decide) rfl (fun ls hl => ?_)
          refine lv_goto (tgt := 20) hx hb d2_readBooks_69 (by decide) ?_
          exact ih hB (j2 + 1) (by (have aj2 := nI_toInt (n := j2) (by omega)); (have kc_1 := nle_i c_1); (have kc_2 := nlt_i c_2); (have kc_3 := nle_i c_3); (have l0 : (0 : Int32).toInt = 0 := rfl); (have l1 : (1 : Int32).toInt = 1 := rfl); (have l3 : (3 : Int32).toInt = 3 := rfl); (have l6 : (6 : Int32).toInt = 6 := rfl); (have l64 : (64 : Int32).toInt = 64 := rfl);  omega) (by (have aj2 := nI_toInt (n := j2) (by omega)); (have kc_1 := nle_i c_1); (have kc_2 := nlt_i c_2); (have kc_3 := nle_i c_3); (have l0 : (0 : Int32).toInt = 0 := rfl); (have l1 : (1 : Int32).toInt = 1 := rfl); (have l3 : (3 : Int32).toInt = 3 := rfl); (have l6 : (6 : Int32).toInt = 6 := rfl); (have l64 : (64 : Int32).toInt = 64 := rfl);  omega) (by (have aj2 := nI_toInt (n := j2) (by omega)); (have kc_1 := nle_i c_1); (have kc_2 := nlt_i c_2); (have kc_3 := nle_i c_3); (have l0 : (0 : Int32).toInt = 0 := rfl); (have l1 : (1 : Int32).toInt = 1 := rfl); (have l3 : (3 : Int32).toInt = 3 := rfl); (have l6 : (6 : Int32).toInt = 6 := rfl); (have l64 : (64 : Int32).toInt = 64 := rfl);  exact hsz) (lv_sub hl [2, 3, 0] rfl) (by rw [if_neg c_1, if_neg c_2, if_neg c_3] at hO; exact hO)
set_option maxRecDepth 100000 in
set_option maxHeartbeats 4000000 in
theorem k2_readBooks_2 {p : Program} {l : Launch} {e : Env} {s : State} {m : MethodId} {args : Array Value} {below : List Frame} {meth : Method} {c : Code} {D : va_G} {aC : Nat → ClassId} {ad : Nat → Nat → Nat} {X : Nat → Nat → Prop} {G : sG} (C0 : s_C p s m args meth c b2_readBooks 4 R2 none D aC) (hX : xC X G)  : ∀ (r : Nat) {S A : sS} {H : Heap} {locs : List Loc} (hB : s_B D aC ad X (s_N ad X) S A G s.heap H locs) (j2 : Nat) (hj : j2 ≤ 64) (hr3 : 64 < j2 + r) (hsz : 0 ≤ (S 6 0 1).toInt ∧ (S 6 0 1).toInt ≤ 300) {ls : Array Slot} (hl : lv_has ls 4 [(0, .ref (ad 6 0)), (1, .ref (ad 8 0)), (2, .int (nI j2))]) {o : sS × sS} (hO : O2_readBooks_2 G  r S A j2 = o), W p l e (rmk 1) s m args below meth c H locs 0 0 (MQ below (s_Qv D aC ad X G o) args s 0 0 (s_N ad X)) (F0 m 2 ls []) := by
  obtain ⟨hx, hb, hml, hown, hw, hK, hr, hlocks⟩ := id C0
  intro r
  induction r with
  | zero =>
    intro S A H locs hB j2 hj hr3 hsz ls hl o hO
    exact absurd hr3 (by omega)
  | succ r ih =>
    intro S A H locs hB j2 hj hr3 hsz ls hl o hO
    rw [O2_readBooks_2] at hO
    refine lv_iload_n hx hb d2_readBooks_2 rfl (lv_at hl 2 rfl) ?_
    refine lv_aload_n hx hb d2_readBooks_3 rfl (lv_at hl 1 rfl) ?_
    refine sr_alen (v := 64) hx hb hK hB (hX.1 8 (by decide)) (by decide) rfl rfl d2_readBooks_4 ?_
    refine lv_icmp_ge (tgt := 18) hx hb d2_readBooks_5 (by decide) (fun c_1 => ?_) (fun c_1 => ?_)
    · refine lv_iconst (v := 0) hx hb d2_readBooks_18 (by decide) ?_
      refine lv_istore_n (lv' := [(2, .int 0), (0, .ref (ad 6 0)), (1, .ref (ad 8 0))]) hx hb d2_readBooks_19 rfl hl (by decide) rfl (fun ls hl => ?_)
      exact k2_readBooks_20 C0 hX  301 hB 0 (by (have aj2 := nI_toInt (n := j2) (by omega)); (have kc_1 := le_i c_1); (have l64 : (64 : Int32).toInt = 64 := rfl);  omega) (by (have aj2 := nI_toInt (n := j2) (by omega)); (have kc_1 := le_i c_1); (have l64 : (64 : Int32).toInt = 64 := rfl);  omega) (by (have aj2 := nI_toInt (n := j2) (by omega)); (have kc_1 := le_i c_1); (have l64 : (64 : Int32).toInt = 64 := rfl);  exact hsz) (lv_sub hl [1, 2, 0] rfl) (by rw [if_pos c_1] at hO; exact hO)
    · refine lv_aload_n hx hb d2_readBooks_8 rfl (lv_at hl 1 rfl) ?_
      refine lv_iload_n hx hb d2_readBooks_9 rfl (lv_at hl 2 rfl) ?_
      refine lv_iconst (v := 0) hx hb d2_readBooks_10 (by decide) ?_
      refine sr_iast hx hb hK hB (hX.1 8 (by decide)) rfl rfl (vp_in_nI (show j2 < 64 by (have aj2 := nI_toInt (n := j2) (by omega)); (have kc_1 := nle_i c_1); (have l64 : (64 : Int32).toInt = 64 := rfl);  omega) (by decide)) d2_readBooks_11 (fun H locs hB => ?_)
      rw [nI_clamp (show j2 < 2 ^ 31 by omega)] at hB
      refine lv_iinc (v := nI (j2 + 1)) (lv' := [(2, .int (nI (j2 + 1))), (0, .ref (ad 6 0)), (1, .ref (ad 8 0))]) hx hb d2_readBooks_12 hl (k := 2) rfl (nI_1 j2) (by decide) rfl (fun ls hl => ?_)
      refine lv_goto (tgt := 2) hx hb d2_readBooks_15 (by decide) ?_
      exact ih hB (j2 + 1) (by (have aj2 := nI_toInt (n := j2) (by omega)); (have kc_1 := nle_i c_1); (have l64 : (64 : Int32).toInt = 64 := rfl);  omega) (by (have aj2 := nI_toInt (n := j2) (by omega)); (have kc_1 := nle_i c_1); (have l64 : (64 : Int32).toInt = 64 := rfl);  omega) (by (have aj2 := nI_toInt (n := j2) (by omega)); (have kc_1 := nle_i c_1); (have l64 : (64 : Int32).toInt = 64 := rfl);  exact hsz) (lv_sub hl [1, 2, 0] rfl) (by rw [if_neg c_1] at hO; exact hO)
set_option maxRecDepth 100000 in
set_option maxHeartbeats 4000000 in
theorem k2_readBooks_0 {p : Program} {l : Launch} {e : Env} {s : State} {m : MethodId} {args : Array Value} {below : List Frame} {meth : Method} {c : Code} {D : va_G} {aC : Nat → ClassId} {ad : Nat → Nat → Nat} {X : Nat → Nat → Prop} {S A : sS} {G : sG} {H : Heap} {locs : List Loc} (C0 : s_C p s m args meth c b2_readBooks 4 R2 none D aC) (hB : s_B D aC ad X (s_N ad X) S A G s.heap H locs) (hX : xC X G)  (hsz : 0 ≤ (S 6 0 1).toInt ∧ (S 6 0 1).toInt ≤ 300) {ls : Array Slot} (hl : lv_has ls 4 [(0, .ref (ad 6 0)), (1, .ref (ad 8 0))]) {o : sS × sS} (hO : O2_readBooks S A G  = o) : W p l e (rmk 1) s m args below meth c H locs 0 0 (MQ below (s_Qv D aC ad X G o) args s 0 0 (s_N ad X)) (F0 m 0 ls []) := by
  obtain ⟨hx, hb, hml, hown, hw, hK, hr, hlocks⟩ := id C0
  unfold O2_readBooks at hO
  refine lv_iconst (v := 0) hx hb d2_readBooks_0 (by decide) ?_
  refine lv_istore_n (lv' := [(2, .int 0), (0, .ref (ad 6 0)), (1, .ref (ad 8 0))]) hx hb d2_readBooks_1 rfl hl (by decide) rfl (fun ls hl => ?_)
  exact k2_readBooks_2 C0 hX  65 hB 0 (by  omega) (by  omega) (by  exact hsz) (lv_sub hl [1, 2, 0] rfl) (hO)
theorem hd2_readBooks : y2_readBooks.cls = R2 ∧ y2_readBooks.cls ≠ "java/lang/invoke/MethodHandle" ∧ y2_readBooks.cls ≠ "java/lang/invoke/VarHandle" ∧ (parseMethodDescriptor y2_readBooks.desc).map (fun d => d.parameters.length) = some 1 := ⟨rfl, by decide, by decide, by decide +kernel⟩
theorem m2_readBooks {l : Launch} {D : va_G} {aC : Nat → ClassId} {ad : Nat → Nat → Nat} {X : Nat → Nat → Prop} {S A : sS} {G : sG} (hX : xC X G)  (hsz : 0 ≤ (S 6 0 1).toInt ∧ (S 6 0 1).toInt ≤ 300) : Met l y2_readBooks (.code y2_readBooks b2_readBooks 4 none :: wall) (rmk 1) (s_Pc [.ref (ad 6 0), .ref (ad 8 0)] D aC ad X S A G) (s_Qv D aC ad X G (O2_readBooks S A G )) 0 0 (s_N ad X) :=
  s_met (by decide) rfl (Nat.le_of_ble_eq_true rfl) (fun p e s m args below meth c C0 hB ls hl => k2_readBooks_0 C0 hB hX  hsz hl rfl)
