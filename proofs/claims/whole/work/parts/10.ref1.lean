def V7_in (S A : sS) (G : sG) (x0 : Int32) (x1 : Int32) (x2 : Int32) : Int32 := if x0 < x1 then 0 else if x2 < x0 then 0 else 1
set_option maxRecDepth 100000 in
set_option maxHeartbeats 4000000 in
theorem k7_in_0 {p : Program} {l : Launch} {e : Env} {s : State} {m : MethodId} {args : Array Value} {below : List Frame} {meth : Method} {c : Code} {D : va_G} {aC : Nat → ClassId} {ad : Nat → Nat → Nat} {X : Nat → Nat → Prop} {S A : sS} {G : sG} (C0 : s_C p s m args meth c b7_in 3 R7 (some .boolean) D aC) (hB : s_B D aC ad X (s_N ad X) S A G s.heap s.heap []) (hX : xR X) (x0 : Int32) (x1 : Int32) (x2 : Int32)  {ls : Array Slot} (hl : lv_has ls 3 [(0, .int x0), (1, .int x1), (2, .int x2)]) {o : Int32} (hO : V7_in S A G x0 x1 x2 = o) : W p l e (rmk 0) s m args below meth c s.heap [] 0 0 (MQ below (s_Qp o) args s 0 0 (fun _ => False)) (F0 m 0 ls []) := by
  obtain ⟨hx, hb, hml, hown, hw, hK, hr, hlocks⟩ := id C0
  unfold V7_in at hO
  refine lv_iload_n hx hb d7_in_0 rfl (lv_at hl 0 rfl) ?_
  refine lv_iload_n hx hb d7_in_1 rfl (lv_at hl 1 rfl) ?_
  refine lv_icmp_lt (tgt := 14) hx hb d7_in_2 (by decide) (fun c_1 => ?_) (fun c_1 => ?_)
  · refine lv_iconst (v := 0) hx hb d7_in_14 (by decide) ?_
    exact se_pz C0 (Or.inl rfl) (by rw [if_pos c_1] at hO; exact hO) d7_in_15
  · refine lv_iload_n hx hb d7_in_5 rfl (lv_at hl 0 rfl) ?_
    refine lv_iload_n hx hb d7_in_6 rfl (lv_at hl 2 rfl) ?_
    refine lv_icmp_gt (tgt := 14) hx hb d7_in_7 (by decide) (fun c_2 => ?_) (fun c_2 => ?_)
    · refine lv_iconst (v := 0) hx hb d7_in_14 (by decide) ?_
      exact se_pz C0 (Or.inl rfl) (by rw [if_neg c_1, if_pos c_2] at hO; exact hO) d7_in_15
    · refine lv_iconst (v := 1) hx hb d7_in_10 (by decide) ?_
      refine lv_goto (tgt := 15) hx hb d7_in_11 (by decide) ?_
      exact se_pz C0 (Or.inr rfl) (by rw [if_neg c_1, if_neg c_2] at hO; exact hO) d7_in_15
theorem z7_in (S A : sS) (G : sG) (x0 : Int32) (x1 : Int32) (x2 : Int32) : V7_in S A G x0 x1 x2 = 0 ∨ V7_in S A G x0 x1 x2 = 1 := by
  unfold V7_in
  (repeat' split) <;> first | exact Or.inl rfl | exact Or.inr rfl
theorem hd7_in : y7_in.cls = R7 ∧ y7_in.cls ≠ "java/lang/invoke/MethodHandle" ∧ y7_in.cls ≠ "java/lang/invoke/VarHandle" ∧ (parseMethodDescriptor y7_in.desc).map (fun d => d.parameters.length) = some 3 := ⟨rfl, by decide, by decide, by decide +kernel⟩
theorem m7_in {l : Launch} {D : va_G} {aC : Nat → ClassId} {ad : Nat → Nat → Nat} {X : Nat → Nat → Prop} {S A : sS} {G : sG} (hX : xR X) (x0 : Int32) (x1 : Int32) (x2 : Int32)  : Met l y7_in (.code y7_in b7_in 3 (some .boolean) :: wall) (rmk 0) (s_Pc [.int x0, .int x1, .int x2] D aC ad X S A G) (s_Qp (V7_in S A G x0 x1 x2)) 0 0 (fun _ => False) :=
  s_met (by decide) rfl (Nat.le_of_ble_eq_true rfl) (fun p e s m args below meth c C0 hB ls hl => k7_in_0 C0 hB hX x0 x1 x2  hl rfl)

theorem in_t {S A : sS} {G : sG} {x a b : Int32} (h : ¬ V7_in S A G x a b = 0) : a.toInt ≤ x.toInt ∧ x.toInt ≤ b.toInt := by
  unfold V7_in at h
  by_cases h1 : x < a
  · exact absurd (if_pos h1) h
  · rw [if_neg h1] at h
    by_cases h2 : b < x
    · exact absurd (if_pos h2) h
    · exact ⟨nlt_i h1, nlt_i h2⟩

def V7_hasUser (S A : sS) (G : sG) (x1 : Int32) : Int32 := if V7_in S A G x1 0 15 = 0 then 0 else if A 22 0 (x1.toNatClampNeg) = 0 then 0 else 1
set_option maxRecDepth 100000 in
set_option maxHeartbeats 4000000 in
theorem k7_hasUser_0 {p : Program} {l : Launch} {e : Env} {s : State} {m : MethodId} {args : Array Value} {below : List Frame} {meth : Method} {c : Code} {D : va_G} {aC : Nat → ClassId} {ad : Nat → Nat → Nat} {X : Nat → Nat → Prop} {S A : sS} {G : sG} (C0 : s_C p s m args meth c b7_hasUser 2 R7 (some .boolean) D aC) (hB : s_B D aC ad X (s_N ad X) S A G s.heap s.heap []) (hX : xR X) (x1 : Int32)  {ls : Array Slot} (hl : lv_has ls 2 [(0, .ref (ad 20 0)), (1, .int x1)]) {o : Int32} (hO : V7_hasUser S A G x1 = o) : W p l e (rmk 1) s m args below meth c s.heap [] 0 0 (MQ below (s_Qp o) args s 0 0 (fun _ => False)) (F0 m 0 ls []) := by
  obtain ⟨hx, hb, hml, hown, hw, hK, hr, hlocks⟩ := id C0
  unfold V7_hasUser at hO
  refine lv_iload_n hx hb d7_hasUser_0 rfl (lv_at hl 1 rfl) ?_
  refine lv_iconst (v := 0) hx hb d7_hasUser_1 (by decide) ?_
  refine lv_bipush (v := 15) hx hb d7_hasUser_2 (by decide) ?_
  refine sr_sp C0 hB (m7_in hX x1 0 15 ) ml_7_93 st_7_in in_7 cd_7_in hd7_in ⟨⟨rfl, rfl⟩, by decide, by decide⟩ ⟨Nat.zero_le _, Nat.zero_le _⟩ hl.1 rfl (Nat.le_of_ble_eq_true rfl) d7_hasUser_4 ?_
  refine lv_if_eq (tgt := 23) hx hb d7_hasUser_7 (by decide) (fun c_1 => ?_) (fun c_1 => ?_)
  · refine lv_iconst (v := 0) hx hb d7_hasUser_23 (by decide) ?_
    exact se_pz C0 (Or.inl rfl) (by rw [if_pos c_1] at hO; exact hO) d7_hasUser_24
  · refine lv_aload_n hx hb d7_hasUser_10 rfl (lv_at hl 0 rfl) ?_
    refine sr_get (v := .ref (ad 22 0)) hx hb hw hown hK hB 1 (hX 20 (by decide)) cf_20 us7 (by decide) fl_7_7 (rfl) d7_hasUser_11 ?_
    refine lv_iload_n hx hb d7_hasUser_14 rfl (lv_at hl 1 rfl) ?_
    refine sr_zald (v := A 22 0 (x1.toNatClampNeg)) hx hb hK hB (hX 22 (by decide)) rfl rfl (by (refine vp_in_iff.mpr ?_); (show 0 ≤ x1.toInt ∧ x1.toInt < ((16 : Nat) : Int)); (have kc_1 := in_t c_1); (have l0 : (0 : Int32).toInt = 0 := rfl); (have l15 : (15 : Int32).toInt = 15 := rfl);  omega) d7_hasUser_15 (rfl) ?_
    refine lv_if_eq (tgt := 23) hx hb d7_hasUser_16 (by decide) (fun c_2 => ?_) (fun c_2 => ?_)
    · refine lv_iconst (v := 0) hx hb d7_hasUser_23 (by decide) ?_
      exact se_pz C0 (Or.inl rfl) (by rw [if_neg c_1, if_pos c_2] at hO; exact hO) d7_hasUser_24
    · refine lv_iconst (v := 1) hx hb d7_hasUser_19 (by decide) ?_
      refine lv_goto (tgt := 24) hx hb d7_hasUser_20 (by decide) ?_
      exact se_pz C0 (Or.inr rfl) (by rw [if_neg c_1, if_neg c_2] at hO; exact hO) d7_hasUser_24
theorem z7_hasUser (S A : sS) (G : sG) (x1 : Int32) : V7_hasUser S A G x1 = 0 ∨ V7_hasUser S A G x1 = 1 := by
  unfold V7_hasUser
  (repeat' split) <;> first | exact Or.inl rfl | exact Or.inr rfl | apply z7_in
theorem hd7_hasUser : y7_hasUser.cls = R7 ∧ y7_hasUser.cls ≠ "java/lang/invoke/MethodHandle" ∧ y7_hasUser.cls ≠ "java/lang/invoke/VarHandle" ∧ (parseMethodDescriptor y7_hasUser.desc).map (fun d => d.parameters.length) = some 1 := ⟨rfl, by decide, by decide, by decide +kernel⟩
theorem m7_hasUser {l : Launch} {D : va_G} {aC : Nat → ClassId} {ad : Nat → Nat → Nat} {X : Nat → Nat → Prop} {S A : sS} {G : sG} (hX : xR X) (x1 : Int32)  : Met l y7_hasUser (.code y7_hasUser b7_hasUser 2 (some .boolean) :: wall) (rmk 1) (s_Pc [.ref (ad 20 0), .int x1] D aC ad X S A G) (s_Qp (V7_hasUser S A G x1)) 0 0 (fun _ => False) :=
  s_met (by decide) rfl (Nat.le_of_ble_eq_true rfl) (fun p e s m args below meth c C0 hB ls hl => k7_hasUser_0 C0 hB hX x1  hl rfl)

def V7_hasItem (S A : sS) (G : sG) (x1 : Int32) : Int32 := if V7_in S A G x1 0 31 = 0 then 0 else if A 31 0 (x1.toNatClampNeg) = 0 then 0 else 1
set_option maxRecDepth 100000 in
set_option maxHeartbeats 4000000 in
theorem k7_hasItem_0 {p : Program} {l : Launch} {e : Env} {s : State} {m : MethodId} {args : Array Value} {below : List Frame} {meth : Method} {c : Code} {D : va_G} {aC : Nat → ClassId} {ad : Nat → Nat → Nat} {X : Nat → Nat → Prop} {S A : sS} {G : sG} (C0 : s_C p s m args meth c b7_hasItem 2 R7 (some .boolean) D aC) (hB : s_B D aC ad X (s_N ad X) S A G s.heap s.heap []) (hX : xR X) (x1 : Int32)  {ls : Array Slot} (hl : lv_has ls 2 [(0, .ref (ad 20 0)), (1, .int x1)]) {o : Int32} (hO : V7_hasItem S A G x1 = o) : W p l e (rmk 1) s m args below meth c s.heap [] 0 0 (MQ below (s_Qp o) args s 0 0 (fun _ => False)) (F0 m 0 ls []) := by
  obtain ⟨hx, hb, hml, hown, hw, hK, hr, hlocks⟩ := id C0
  unfold V7_hasItem at hO
  refine lv_iload_n hx hb d7_hasItem_0 rfl (lv_at hl 1 rfl) ?_
  refine lv_iconst (v := 0) hx hb d7_hasItem_1 (by decide) ?_
  refine lv_bipush (v := 31) hx hb d7_hasItem_2 (by decide) ?_
  refine sr_sp C0 hB (m7_in hX x1 0 31 ) ml_7_93 st_7_in in_7 cd_7_in hd7_in ⟨⟨rfl, rfl⟩, by decide, by decide⟩ ⟨Nat.zero_le _, Nat.zero_le _⟩ hl.1 rfl (Nat.le_of_ble_eq_true rfl) d7_hasItem_4 ?_
  refine lv_if_eq (tgt := 23) hx hb d7_hasItem_7 (by decide) (fun c_1 => ?_) (fun c_1 => ?_)
  · refine lv_iconst (v := 0) hx hb d7_hasItem_23 (by decide) ?_
    exact se_pz C0 (Or.inl rfl) (by rw [if_pos c_1] at hO; exact hO) d7_hasItem_24
  · refine lv_aload_n hx hb d7_hasItem_10 rfl (lv_at hl 0 rfl) ?_
    refine sr_get (v := .ref (ad 31 0)) hx hb hw hown hK hB 10 (hX 20 (by decide)) cf_20 us7 (by decide) fl_7_33 (rfl) d7_hasItem_11 ?_
    refine lv_iload_n hx hb d7_hasItem_14 rfl (lv_at hl 1 rfl) ?_
    refine sr_zald (v := A 31 0 (x1.toNatClampNeg)) hx hb hK hB (hX 31 (by decide)) rfl rfl (by (refine vp_in_iff.mpr ?_); (show 0 ≤ x1.toInt ∧ x1.toInt < ((32 : Nat) : Int)); (have kc_1 := in_t c_1); (have l0 : (0 : Int32).toInt = 0 := rfl); (have l31 : (31 : Int32).toInt = 31 := rfl);  omega) d7_hasItem_15 (rfl) ?_
    refine lv_if_eq (tgt := 23) hx hb d7_hasItem_16 (by decide) (fun c_2 => ?_) (fun c_2 => ?_)
    · refine lv_iconst (v := 0) hx hb d7_hasItem_23 (by decide) ?_
      exact se_pz C0 (Or.inl rfl) (by rw [if_neg c_1, if_pos c_2] at hO; exact hO) d7_hasItem_24
    · refine lv_iconst (v := 1) hx hb d7_hasItem_19 (by decide) ?_
      refine lv_goto (tgt := 24) hx hb d7_hasItem_20 (by decide) ?_
      exact se_pz C0 (Or.inr rfl) (by rw [if_neg c_1, if_neg c_2] at hO; exact hO) d7_hasItem_24
theorem z7_hasItem (S A : sS) (G : sG) (x1 : Int32) : V7_hasItem S A G x1 = 0 ∨ V7_hasItem S A G x1 = 1 := by
  unfold V7_hasItem
  (repeat' split) <;> first | exact Or.inl rfl | exact Or.inr rfl | apply z7_in
theorem hd7_hasItem : y7_hasItem.cls = R7 ∧ y7_hasItem.cls ≠ "java/lang/invoke/MethodHandle" ∧ y7_hasItem.cls ≠ "java/lang/invoke/VarHandle" ∧ (parseMethodDescriptor y7_hasItem.desc).map (fun d => d.parameters.length) = some 1 := ⟨rfl, by decide, by decide, by decide +kernel⟩
theorem m7_hasItem {l : Launch} {D : va_G} {aC : Nat → ClassId} {ad : Nat → Nat → Nat} {X : Nat → Nat → Prop} {S A : sS} {G : sG} (hX : xR X) (x1 : Int32)  : Met l y7_hasItem (.code y7_hasItem b7_hasItem 2 (some .boolean) :: wall) (rmk 1) (s_Pc [.ref (ad 20 0), .int x1] D aC ad X S A G) (s_Qp (V7_hasItem S A G x1)) 0 0 (fun _ => False) :=
  s_met (by decide) rfl (Nat.le_of_ble_eq_true rfl) (fun p e s m args below meth c C0 hB ls hl => k7_hasItem_0 C0 hB hX x1  hl rfl)

def V7_hasOrder (S A : sS) (G : sG) (x1 : Int32) : Int32 := V7_in S A G x1 0 ((S 20 0 20) - 1)
set_option maxRecDepth 100000 in
set_option maxHeartbeats 4000000 in
theorem k7_hasOrder_0 {p : Program} {l : Launch} {e : Env} {s : State} {m : MethodId} {args : Array Value} {below : List Frame} {meth : Method} {c : Code} {D : va_G} {aC : Nat → ClassId} {ad : Nat → Nat → Nat} {X : Nat → Nat → Prop} {S A : sS} {G : sG} (C0 : s_C p s m args meth c b7_hasOrder 2 R7 (some .boolean) D aC) (hB : s_B D aC ad X (s_N ad X) S A G s.heap s.heap []) (hX : xR X) (x1 : Int32)  {ls : Array Slot} (hl : lv_has ls 2 [(0, .ref (ad 20 0)), (1, .int x1)]) {o : Int32} (hO : V7_hasOrder S A G x1 = o) : W p l e (rmk 1) s m args below meth c s.heap [] 0 0 (MQ below (s_Qp o) args s 0 0 (fun _ => False)) (F0 m 0 ls []) := by
  obtain ⟨hx, hb, hml, hown, hw, hK, hr, hlocks⟩ := id C0
  unfold V7_hasOrder at hO
  refine lv_iload_n hx hb d7_hasOrder_0 rfl (lv_at hl 1 rfl) ?_
  refine lv_iconst (v := 0) hx hb d7_hasOrder_1 (by decide) ?_
  refine lv_aload_n hx hb d7_hasOrder_2 rfl (lv_at hl 0 rfl) ?_
  refine sr_get (v := .int (S 20 0 20)) hx hb hw hown hK hB 20 (hX 20 (by decide)) cf_20 us7 (by decide) fl_7_97 (rfl) d7_hasOrder_3 ?_
  refine lv_iconst (v := 1) hx hb d7_hasOrder_6 (by decide) ?_
  refine lv_isub hx hb d7_hasOrder_7 ?_
  refine sr_sp C0 hB (m7_in hX x1 0 ((S 20 0 20) - 1) ) ml_7_93 st_7_in in_7 cd_7_in hd7_in ⟨⟨rfl, rfl⟩, by decide, by decide⟩ ⟨Nat.zero_le _, Nat.zero_le _⟩ hl.1 rfl (Nat.le_of_ble_eq_true rfl) d7_hasOrder_8 ?_
  exact se_pz C0 (by apply z7_in) (hO) d7_hasOrder_11
theorem z7_hasOrder (S A : sS) (G : sG) (x1 : Int32) : V7_hasOrder S A G x1 = 0 ∨ V7_hasOrder S A G x1 = 1 := by
  unfold V7_hasOrder
  (repeat' split) <;> first | exact Or.inl rfl | exact Or.inr rfl | apply z7_in
theorem hd7_hasOrder : y7_hasOrder.cls = R7 ∧ y7_hasOrder.cls ≠ "java/lang/invoke/MethodHandle" ∧ y7_hasOrder.cls ≠ "java/lang/invoke/VarHandle" ∧ (parseMethodDescriptor y7_hasOrder.desc).map (fun d => d.parameters.length) = some 1 := ⟨rfl, by decide, by decide, by decide +kernel⟩
theorem m7_hasOrder {l : Launch} {D : va_G} {aC : Nat → ClassId} {ad : Nat → Nat → Nat} {X : Nat → Nat → Prop} {S A : sS} {G : sG} (hX : xR X) (x1 : Int32)  : Met l y7_hasOrder (.code y7_hasOrder b7_hasOrder 2 (some .boolean) :: wall) (rmk 1) (s_Pc [.ref (ad 20 0), .int x1] D aC ad X S A G) (s_Qp (V7_hasOrder S A G x1)) 0 0 (fun _ => False) :=
  s_met (by decide) rfl (Nat.le_of_ble_eq_true rfl) (fun p e s m args below meth c C0 hB ls hl => k7_hasOrder_0 C0 hB hX x1  hl rfl)

def V7_hasBin (S A : sS) (G : sG) (x0 : Int32) : Int32 := V7_in S A G x0 0 63
set_option maxRecDepth 100000 in
set_option maxHeartbeats 4000000 in
theorem k7_hasBin_0 {p : Program} {l : Launch} {e : Env} {s : State} {m : MethodId} {args : Array Value} {below : List Frame} {meth : Method} {c : Code} {D : va_G} {aC : Nat → ClassId} {ad : Nat → Nat → Nat} {X : Nat → Nat → Prop} {S A : sS} {G : sG} (C0 : s_C p s m args meth c b7_hasBin 1 R7 (some .boolean) D aC) (hB : s_B D aC ad X (s_N ad X) S A G s.heap s.heap []) (hX : xR X) (x0 : Int32)  {ls : Array Slot} (hl : lv_has ls 1 [(0, .int x0)]) {o : Int32} (hO : V7_hasBin S A G x0 = o) : W p l e (rmk 1) s m args below meth c s.heap [] 0 0 (MQ below (s_Qp o) args s 0 0 (fun _ => False)) (F0 m 0 ls []) := by
  obtain ⟨hx, hb, hml, hown, hw, hK, hr, hlocks⟩ := id C0
  unfold V7_hasBin at hO
  refine lv_iload_n hx hb d7_hasBin_0 rfl (lv_at hl 0 rfl) ?_
  refine lv_iconst (v := 0) hx hb d7_hasBin_1 (by decide) ?_
  refine lv_bipush (v := 63) hx hb d7_hasBin_2 (by decide) ?_
  refine sr_sp C0 hB (m7_in hX x0 0 63 ) ml_7_93 st_7_in in_7 cd_7_in hd7_in ⟨⟨rfl, rfl⟩, by decide, by decide⟩ ⟨Nat.zero_le _, Nat.zero_le _⟩ hl.1 rfl (Nat.le_of_ble_eq_true rfl) d7_hasBin_4 ?_
  exact se_pz C0 (by apply z7_in) (hO) d7_hasBin_7
theorem z7_hasBin (S A : sS) (G : sG) (x0 : Int32) : V7_hasBin S A G x0 = 0 ∨ V7_hasBin S A G x0 = 1 := by
  unfold V7_hasBin
  (repeat' split) <;> first | exact Or.inl rfl | exact Or.inr rfl | apply z7_in
theorem hd7_hasBin : y7_hasBin.cls = R7 ∧ y7_hasBin.cls ≠ "java/lang/invoke/MethodHandle" ∧ y7_hasBin.cls ≠ "java/lang/invoke/VarHandle" ∧ (parseMethodDescriptor y7_hasBin.desc).map (fun d => d.parameters.length) = some 1 := ⟨rfl, by decide, by decide, by decide +kernel⟩
theorem m7_hasBin {l : Launch} {D : va_G} {aC : Nat → ClassId} {ad : Nat → Nat → Nat} {X : Nat → Nat → Prop} {S A : sS} {G : sG} (hX : xR X) (x0 : Int32)  : Met l y7_hasBin (.code y7_hasBin b7_hasBin 1 (some .boolean) :: wall) (rmk 1) (s_Pc [.int x0] D aC ad X S A G) (s_Qp (V7_hasBin S A G x0)) 0 0 (fun _ => False) :=
  s_met (by decide) rfl (Nat.le_of_ble_eq_true rfl) (fun p e s m args below meth c C0 hB ls hl => k7_hasBin_0 C0 hB hX x0  hl rfl)

def V7_isWatched (S A : sS) (G : sG)  : Int32 := if S 20 0 6 < 0 then 0 else if S 20 0 8 < 0 then 0 else if S 20 0 9 ≤ S 20 0 0 then 0 else 1
set_option maxRecDepth 100000 in
set_option maxHeartbeats 4000000 in
theorem k7_isWatched_0 {p : Program} {l : Launch} {e : Env} {s : State} {m : MethodId} {args : Array Value} {below : List Frame} {meth : Method} {c : Code} {D : va_G} {aC : Nat → ClassId} {ad : Nat → Nat → Nat} {X : Nat → Nat → Prop} {S A : sS} {G : sG} (C0 : s_C p s m args meth c b7_isWatched 1 R7 (some .boolean) D aC) (hB : s_B D aC ad X (s_N ad X) S A G s.heap s.heap []) (hX : xR X)   {ls : Array Slot} (hl : lv_has ls 1 [(0, .ref (ad 20 0))]) {o : Int32} (hO : V7_isWatched S A G  = o) : W p l e (rmk 0) s m args below meth c s.heap [] 0 0 (MQ below (s_Qp o) args s 0 0 (fun _ => False)) (F0 m 0 ls []) := by
  obtain ⟨hx, hb, hml, hown, hw, hK, hr, hlocks⟩ := id C0
  unfold V7_isWatched at hO
  refine lv_aload_n hx hb d7_isWatched_0 rfl (lv_at hl 0 rfl) ?_
  refine sr_get (v := .int (S 20 0 6)) hx hb hw hown hK hB 6 (hX 20 (by decide)) cf_20 us7 (by decide) fl_7_26 (rfl) d7_isWatched_1 ?_
  refine lv_if_lt (tgt := 29) hx hb d7_isWatched_4 (by decide) (fun c_1 => ?_) (fun c_1 => ?_)
  · refine lv_iconst (v := 0) hx hb d7_isWatched_29 (by decide) ?_
    exact se_pz C0 (Or.inl rfl) (by rw [if_pos c_1] at hO; exact hO) d7_isWatched_30
  · refine lv_aload_n hx hb d7_isWatched_7 rfl (lv_at hl 0 rfl) ?_
    refine sr_get (v := .int (S 20 0 8)) hx hb hw hown hK hB 8 (hX 20 (by decide)) cf_20 us7 (by decide) fl_7_30 (rfl) d7_isWatched_8 ?_
    refine lv_if_lt (tgt := 29) hx hb d7_isWatched_11 (by decide) (fun c_2 => ?_) (fun c_2 => ?_)
    · refine lv_iconst (v := 0) hx hb d7_isWatched_29 (by decide) ?_
      exact se_pz C0 (Or.inl rfl) (by rw [if_neg c_1, if_pos c_2] at hO; exact hO) d7_isWatched_30
    · refine lv_aload_n hx hb d7_isWatched_14 rfl (lv_at hl 0 rfl) ?_
      refine sr_get (v := .int (S 20 0 0)) hx hb hw hown hK hB 0 (hX 20 (by decide)) cf_20 us7 (by decide) fl_7_100 (rfl) d7_isWatched_15 ?_
      refine lv_aload_n hx hb d7_isWatched_18 rfl (lv_at hl 0 rfl) ?_
      refine sr_get (v := .int (S 20 0 9)) hx hb hw hown hK hB 9 (hX 20 (by decide)) cf_20 us7 (by decide) fl_7_103 (rfl) d7_isWatched_19 ?_
      refine lv_icmp_ge (tgt := 29) hx hb d7_isWatched_22 (by decide) (fun c_3 => ?_) (fun c_3 => ?_)
      · refine lv_iconst (v := 0) hx hb d7_isWatched_29 (by decide) ?_
        exact se_pz C0 (Or.inl rfl) (by rw [if_neg c_1, if_neg c_2, if_pos c_3] at hO; exact hO) d7_isWatched_30
      · refine lv_iconst (v := 1) hx hb d7_isWatched_25 (by decide) ?_
        refine lv_goto (tgt := 30) hx hb d7_isWatched_26 (by decide) ?_
        exact se_pz C0 (Or.inr rfl) (by rw [if_neg c_1, if_neg c_2, if_neg c_3] at hO; exact hO) d7_isWatched_30
theorem z7_isWatched (S A : sS) (G : sG)  : V7_isWatched S A G  = 0 ∨ V7_isWatched S A G  = 1 := by
  unfold V7_isWatched
  (repeat' split) <;> first | exact Or.inl rfl | exact Or.inr rfl
theorem hd7_isWatched : y7_isWatched.cls = R7 ∧ y7_isWatched.cls ≠ "java/lang/invoke/MethodHandle" ∧ y7_isWatched.cls ≠ "java/lang/invoke/VarHandle" ∧ (parseMethodDescriptor y7_isWatched.desc).map (fun d => d.parameters.length) = some 0 := ⟨rfl, by decide, by decide, by decide +kernel⟩
theorem m7_isWatched {l : Launch} {D : va_G} {aC : Nat → ClassId} {ad : Nat → Nat → Nat} {X : Nat → Nat → Prop} {S A : sS} {G : sG} (hX : xR X)   : Met l y7_isWatched (.code y7_isWatched b7_isWatched 1 (some .boolean) :: wall) (rmk 0) (s_Pc [.ref (ad 20 0)] D aC ad X S A G) (s_Qp (V7_isWatched S A G )) 0 0 (fun _ => False) :=
  s_met (by decide) rfl (Nat.le_of_ble_eq_true rfl) (fun p e s m args below meth c C0 hB ls hl => k7_isWatched_0 C0 hB hX   hl rfl)

def V7_wholeCopies (S A : sS) (G : sG)  : Int32 := if A 57 0 0 = 0 then if A 57 0 1 = 0 then 1 + 1 else 1 + 0 else if A 57 0 1 = 0 then 0 + 1 else 0 + 0
set_option maxRecDepth 100000 in
set_option maxHeartbeats 4000000 in
theorem k7_wholeCopies_0 {p : Program} {l : Launch} {e : Env} {s : State} {m : MethodId} {args : Array Value} {below : List Frame} {meth : Method} {c : Code} {D : va_G} {aC : Nat → ClassId} {ad : Nat → Nat → Nat} {X : Nat → Nat → Prop} {S A : sS} {G : sG} (C0 : s_C p s m args meth c b7_wholeCopies 1 R7 (some .int) D aC) (hB : s_B D aC ad X (s_N ad X) S A G s.heap s.heap []) (hX : xR X)   {ls : Array Slot} (hl : lv_has ls 1 [(0, .ref (ad 20 0))]) {o : Int32} (hO : V7_wholeCopies S A G  = o) : W p l e (rmk 0) s m args below meth c s.heap [] 0 0 (MQ below (s_Qp o) args s 0 0 (fun _ => False)) (F0 m 0 ls []) := by
  obtain ⟨hx, hb, hml, hown, hw, hK, hr, hlocks⟩ := id C0
  unfold V7_wholeCopies at hO
  refine lv_aload_n hx hb d7_wholeCopies_0 rfl (lv_at hl 0 rfl) ?_
  refine sr_get (v := .ref (ad 57 0)) hx hb hw hown hK hB 36 (hX 20 (by decide)) cf_20 us7 (by decide) fl_7_87 (rfl) d7_wholeCopies_1 ?_
  refine lv_iconst (v := 0) hx hb d7_wholeCopies_4 (by decide) ?_
  refine sr_zald (v := A 57 0 0) hx hb hK hB (hX 57 (by decide)) rfl rfl (by (refine vp_in_iff.mpr ?_); decide) d7_wholeCopies_5 (rfl) ?_
  refine lv_if_eq (tgt := 13) hx hb d7_wholeCopies_6 (by decide) (fun c_1 => ?_) (fun c_1 => ?_)
  · refine lv_iconst (v := 1) hx hb d7_wholeCopies_13 (by decide) ?_
    refine lv_aload_n hx hb d7_wholeCopies_14 rfl (lv_at hl 0 rfl) ?_
    refine sr_get (v := .ref (ad 57 0)) hx hb hw hown hK hB 36 (hX 20 (by decide)) cf_20 us7 (by decide) fl_7_87 (rfl) d7_wholeCopies_15 ?_
    refine lv_iconst (v := 1) hx hb d7_wholeCopies_18 (by decide) ?_
    refine sr_zald (v := A 57 0 1) hx hb hK hB (hX 57 (by decide)) rfl rfl (by (refine vp_in_iff.mpr ?_); decide) d7_wholeCopies_19 (rfl) ?_
    refine lv_if_eq (tgt := 27) hx hb d7_wholeCopies_20 (by decide) (fun c_2 => ?_) (fun c_2 => ?_)
    · refine lv_iconst (v := 1) hx hb d7_wholeCopies_27 (by decide) ?_
      refine lv_iadd hx hb d7_wholeCopies_28 ?_
      exact se_pi C0 (by rw [if_pos c_1, if_pos c_2] at hO; exact hO) d7_wholeCopies_29
    · refine lv_iconst (v := 0) hx hb d7_wholeCopies_23 (by decide) ?_
      refine lv_goto (tgt := 28) hx hb d7_wholeCopies_24 (by decide) ?_
      refine lv_iadd hx hb d7_wholeCopies_28 ?_
      exact se_pi C0 (by rw [if_pos c_1, if_neg c_2] at hO; exact hO) d7_wholeCopies_29
  · refine lv_iconst (v := 0) hx hb d7_wholeCopies_9 (by decide) ?_
    refine lv_goto (tgt := 14) hx hb d7_wholeCopies_10 (by decide) ?_
    refine lv_aload_n hx hb d7_wholeCopies_14 rfl (lv_at hl 0 rfl) ?_
    refine sr_get (v := .ref (ad 57 0)) hx hb hw hown hK hB 36 (hX 20 (by decide)) cf_20 us7 (by decide) fl_7_87 (rfl) d7_wholeCopies_15 ?_
    refine lv_iconst (v := 1) hx hb d7_wholeCopies_18 (by decide) ?_
    refine sr_zald (v := A 57 0 1) hx hb hK hB (hX 57 (by decide)) rfl rfl (by (refine vp_in_iff.mpr ?_); decide) d7_wholeCopies_19 (rfl) ?_
    refine lv_if_eq (tgt := 27) hx hb d7_wholeCopies_20 (by decide) (fun c_3 => ?_) (fun c_3 => ?_)
    · refine lv_iconst (v := 1) hx hb d7_wholeCopies_27 (by decide) ?_
      refine lv_iadd hx hb d7_wholeCopies_28 ?_
      exact se_pi C0 (by rw [if_neg c_1, if_pos c_3] at hO; exact hO) d7_wholeCopies_29
    · refine lv_iconst (v := 0) hx hb d7_wholeCopies_23 (by decide) ?_
      refine lv_goto (tgt := 28) hx hb d7_wholeCopies_24 (by decide) ?_
      refine lv_iadd hx hb d7_wholeCopies_28 ?_
      exact se_pi C0 (by rw [if_neg c_1, if_neg c_3] at hO; exact hO) d7_wholeCopies_29
theorem hd7_wholeCopies : y7_wholeCopies.cls = R7 ∧ y7_wholeCopies.cls ≠ "java/lang/invoke/MethodHandle" ∧ y7_wholeCopies.cls ≠ "java/lang/invoke/VarHandle" ∧ (parseMethodDescriptor y7_wholeCopies.desc).map (fun d => d.parameters.length) = some 0 := ⟨rfl, by decide, by decide, by decide +kernel⟩
theorem m7_wholeCopies {l : Launch} {D : va_G} {aC : Nat → ClassId} {ad : Nat → Nat → Nat} {X : Nat → Nat → Prop} {S A : sS} {G : sG} (hX : xR X)   : Met l y7_wholeCopies (.code y7_wholeCopies b7_wholeCopies 1 (some .int) :: wall) (rmk 0) (s_Pc [.ref (ad 20 0)] D aC ad X S A G) (s_Qp (V7_wholeCopies S A G )) 0 0 (fun _ => False) :=
  s_met (by decide) rfl (Nat.le_of_ble_eq_true rfl) (fun p e s m args below meth c C0 hB ls hl => k7_wholeCopies_0 C0 hB hX   hl rfl)

def O7_user (S A : sS) (G : sG) (x1 : Int32) (x2 : Int32) (x3 : Int32) : Int32 × sS × sS := if V7_in S A G x1 0 15 = 0 then ((-1), S, A) else if V7_in S A G x2 0 2 = 0 then ((-1), S, A) else if A 22 0 (x1.toNatClampNeg) = 0 then (0, S, (up3 (up3 (up3 A 22 0 (x1.toNatClampNeg) 1) 23 0 (x1.toNatClampNeg) x2) 24 0 (x1.toNatClampNeg) x3)) else ((-1), S, A)
set_option maxRecDepth 100000 in
set_option maxHeartbeats 4000000 in
theorem k7_user_0 {p : Program} {l : Launch} {e : Env} {s : State} {m : MethodId} {args : Array Value} {below : List Frame} {meth : Method} {c : Code} {D : va_G} {aC : Nat → ClassId} {ad : Nat → Nat → Nat} {X : Nat → Nat → Prop} {S A : sS} {G : sG} {H : Heap} {locs : List Loc} (C0 : s_C p s m args meth c b7_user 4 R7 (some .int) D aC) (hB : s_B D aC ad X (s_N ad X) S A G s.heap H locs) (hX : xR X) (x1 : Int32) (x2 : Int32) (x3 : Int32)  {ls : Array Slot} (hl : lv_has ls 4 [(0, .ref (ad 20 0)), (1, .int x1), (2, .int x2), (3, .int x3)]) {o : Int32 × sS × sS} (hO : O7_user S A G x1 x2 x3 = o) : W p l e (rmk 1) s m args below meth c H locs 0 0 (MQ below (s_Qi D aC ad X G o) args s 0 0 (s_N ad X)) (F0 m 0 ls []) := by
  obtain ⟨hx, hb, hml, hown, hw, hK, hr, hlocks⟩ := id C0
  unfold O7_user at hO
  refine lv_iload_n hx hb d7_user_0 rfl (lv_at hl 1 rfl) ?_
  refine lv_iconst (v := 0) hx hb d7_user_1 (by decide) ?_
  refine lv_bipush (v := 15) hx hb d7_user_2 (by decide) ?_
  refine sr_sp C0 hB (m7_in hX x1 0 15 ) ml_7_93 st_7_in in_7 cd_7_in hd7_in ⟨⟨rfl, rfl⟩, by decide, by decide⟩ ⟨Nat.zero_le _, Nat.zero_le _⟩ hl.1 rfl (Nat.le_of_ble_eq_true rfl) d7_user_4 ?_
  refine lv_if_eq (tgt := 28) hx hb d7_user_7 (by decide) (fun c_1 => ?_) (fun c_1 => ?_)
  · refine lv_iconst (v := (-1)) hx hb d7_user_28 (by decide) ?_
    exact se_i C0 hB (by rw [if_pos c_1] at hO; exact hO) d7_user_29
  · refine lv_iload_n hx hb d7_user_10 rfl (lv_at hl 2 rfl) ?_
    refine lv_iconst (v := 0) hx hb d7_user_11 (by decide) ?_
    refine lv_iconst (v := 2) hx hb d7_user_12 (by decide) ?_
    refine sr_sp C0 hB (m7_in hX x2 0 2 ) ml_7_93 st_7_in in_7 cd_7_in hd7_in ⟨⟨rfl, rfl⟩, by decide, by decide⟩ ⟨Nat.zero_le _, Nat.zero_le _⟩ hl.1 rfl (Nat.le_of_ble_eq_true rfl) d7_user_13 ?_
    refine lv_if_eq (tgt := 28) hx hb d7_user_16 (by decide) (fun c_2 => ?_) (fun c_2 => ?_)
    · refine lv_iconst (v := (-1)) hx hb d7_user_28 (by decide) ?_
      exact se_i C0 hB (by rw [if_neg c_1, if_pos c_2] at hO; exact hO) d7_user_29
    · refine lv_aload_n hx hb d7_user_19 rfl (lv_at hl 0 rfl) ?_
      refine sr_get (v := .ref (ad 22 0)) hx hb hw hown hK hB 1 (hX 20 (by decide)) cf_20 us7 (by decide) fl_7_7 (rfl) d7_user_20 ?_
      refine lv_iload_n hx hb d7_user_23 rfl (lv_at hl 1 rfl) ?_
      refine sr_zald (v := A 22 0 (x1.toNatClampNeg)) hx hb hK hB (hX 22 (by decide)) rfl rfl (by (refine vp_in_iff.mpr ?_); (show 0 ≤ x1.toInt ∧ x1.toInt < ((16 : Nat) : Int)); (have kc_1 := in_t c_1); (have l0 : (0 : Int32).toInt = 0 := rfl); (have l15 : (15 : Int32).toInt = 15 := rfl);  omega) d7_user_24 (rfl) ?_
      refine lv_if_eq (tgt := 30) hx hb d7_user_25 (by decide) (fun c_3 => ?_) (fun c_3 => ?_)
      · refine lv_aload_n hx hb d7_user_30 rfl (lv_at hl 0 rfl) ?_
        refine sr_get (v := .ref (ad 22 0)) hx hb hw hown hK hB 1 (hX 20 (by decide)) cf_20 us7 (by decide) fl_7_7 (rfl) d7_user_31 ?_
        refine lv_iload_n hx hb d7_user_34 rfl (lv_at hl 1 rfl) ?_
        refine lv_iconst (v := 1) hx hb d7_user_35 (by decide) ?_
        refine sr_zast hx hb hK hB (hX 22 (by decide)) rfl rfl rfl (by (refine vp_in_iff.mpr ?_); (show 0 ≤ x1.toInt ∧ x1.toInt < ((16 : Nat) : Int)); (have kc_1 := in_t c_1); (have l0 : (0 : Int32).toInt = 0 := rfl); (have l15 : (15 : Int32).toInt = 15 := rfl);  omega) d7_user_36 (fun H locs hB => ?_)
        refine lv_aload_n hx hb d7_user_37 rfl (lv_at hl 0 rfl) ?_
        refine sr_get (v := .ref (ad 23 0)) hx hb hw hown hK hB 2 (hX 20 (by decide)) cf_20 us7 (by decide) fl_7_13 (rfl) d7_user_38 ?_
        refine lv_iload_n hx hb d7_user_41 rfl (lv_at hl 1 rfl) ?_
        refine lv_iload_n hx hb d7_user_42 rfl (lv_at hl 2 rfl) ?_
        refine sr_iast hx hb hK hB (hX 23 (by decide)) rfl rfl (by (refine vp_in_iff.mpr ?_); (show 0 ≤ x1.toInt ∧ x1.toInt < ((16 : Nat) : Int)); (have kc_1 := in_t c_1); (have l0 : (0 : Int32).toInt = 0 := rfl); (have l15 : (15 : Int32).toInt = 15 := rfl);  omega) d7_user_43 (fun H locs hB => ?_)
        refine lv_aload_n hx hb d7_user_44 rfl (lv_at hl 0 rfl) ?_
        refine sr_get (v := .ref (ad 24 0)) hx hb hw hown hK hB 3 (hX 20 (by decide)) cf_20 us7 (by decide) fl_7_17 (rfl) d7_user_45 ?_
        refine lv_iload_n hx hb d7_user_48 rfl (lv_at hl 1 rfl) ?_
        refine lv_iload_n hx hb d7_user_49 rfl (lv_at hl 3 rfl) ?_
        refine sr_iast hx hb hK hB (hX 24 (by decide)) rfl rfl (by (refine vp_in_iff.mpr ?_); (show 0 ≤ x1.toInt ∧ x1.toInt < ((16 : Nat) : Int)); (have kc_1 := in_t c_1); (have l0 : (0 : Int32).toInt = 0 := rfl); (have l15 : (15 : Int32).toInt = 15 := rfl);  omega) d7_user_50 (fun H locs hB => ?_)
        refine lv_iconst (v := 0) hx hb d7_user_51 (by decide) ?_
        exact se_i C0 hB (by rw [if_neg c_1, if_neg c_2, if_pos c_3] at hO; exact hO) d7_user_52
      · refine lv_iconst (v := (-1)) hx hb d7_user_28 (by decide) ?_
        exact se_i C0 hB (by rw [if_neg c_1, if_neg c_2, if_neg c_3] at hO; exact hO) d7_user_29
theorem hd7_user : y7_user.cls = R7 ∧ y7_user.cls ≠ "java/lang/invoke/MethodHandle" ∧ y7_user.cls ≠ "java/lang/invoke/VarHandle" ∧ (parseMethodDescriptor y7_user.desc).map (fun d => d.parameters.length) = some 3 := ⟨rfl, by decide, by decide, by decide +kernel⟩
theorem m7_user {l : Launch} {D : va_G} {aC : Nat → ClassId} {ad : Nat → Nat → Nat} {X : Nat → Nat → Prop} {S A : sS} {G : sG} (hX : xR X) (x1 : Int32) (x2 : Int32) (x3 : Int32)  : Met l y7_user (.code y7_user b7_user 4 (some .int) :: wall) (rmk 1) (s_Pc [.ref (ad 20 0), .int x1, .int x2, .int x3] D aC ad X S A G) (s_Qi D aC ad X G (O7_user S A G x1 x2 x3)) 0 0 (s_N ad X) :=
  s_met (by decide) rfl (Nat.le_of_ble_eq_true rfl) (fun p e s m args below meth c C0 hB ls hl => k7_user_0 C0 hB hX x1 x2 x3  hl rfl)

def O7_item (S A : sS) (G : sG) (x1 : Int32) (x2 : Int32) (x3 : Int32) : Int32 × sS × sS := if V7_in S A G x1 0 31 = 0 then ((-1), S, A) else if V7_in S A G x3 0 10000 = 0 then ((-1), S, A) else if A 31 0 (x1.toNatClampNeg) = 0 then (0, S, (up3 (up3 (up3 A 31 0 (x1.toNatClampNeg) 1) 32 0 (x1.toNatClampNeg) x2) 33 0 (x1.toNatClampNeg) x3)) else ((-1), S, A)
set_option maxRecDepth 100000 in
set_option maxHeartbeats 4000000 in
theorem k7_item_0 {p : Program} {l : Launch} {e : Env} {s : State} {m : MethodId} {args : Array Value} {below : List Frame} {meth : Method} {c : Code} {D : va_G} {aC : Nat → ClassId} {ad : Nat → Nat → Nat} {X : Nat → Nat → Prop} {S A : sS} {G : sG} {H : Heap} {locs : List Loc} (C0 : s_C p s m args meth c b7_item 4 R7 (some .int) D aC) (hB : s_B D aC ad X (s_N ad X) S A G s.heap H locs) (hX : xR X) (x1 : Int32) (x2 : Int32) (x3 : Int32) (hb2 : x2 = 0 ∨ x2 = 1) {ls : Array Slot} (hl : lv_has ls 4 [(0, .ref (ad 20 0)), (1, .int x1), (2, .int x2), (3, .int x3)]) {o : Int32 × sS × sS} (hO : O7_item S A G x1 x2 x3 = o) : W p l e (rmk 1) s m args below meth c H locs 0 0 (MQ below (s_Qi D aC ad X G o) args s 0 0 (s_N ad X)) (F0 m 0 ls []) := by
  obtain ⟨hx, hb, hml, hown, hw, hK, hr, hlocks⟩ := id C0
  unfold O7_item at hO
  refine lv_iload_n hx hb d7_item_0 rfl (lv_at hl 1 rfl) ?_
  refine lv_iconst (v := 0) hx hb d7_item_1 (by decide) ?_
  refine lv_bipush (v := 31) hx hb d7_item_2 (by decide) ?_
  refine sr_sp C0 hB (m7_in hX x1 0 31 ) ml_7_93 st_7_in in_7 cd_7_in hd7_in ⟨⟨rfl, rfl⟩, by decide, by decide⟩ ⟨Nat.zero_le _, Nat.zero_le _⟩ hl.1 rfl (Nat.le_of_ble_eq_true rfl) d7_item_4 ?_
  refine lv_if_eq (tgt := 30) hx hb d7_item_7 (by decide) (fun c_1 => ?_) (fun c_1 => ?_)
  · refine lv_iconst (v := (-1)) hx hb d7_item_30 (by decide) ?_
    exact se_i C0 hB (by rw [if_pos c_1] at hO; exact hO) d7_item_31
  · refine lv_iload_n hx hb d7_item_10 rfl (lv_at hl 3 rfl) ?_
    refine lv_iconst (v := 0) hx hb d7_item_11 (by decide) ?_
    refine lv_sipush (v := 10000) hx hb d7_item_12 (by decide) ?_
    refine sr_sp C0 hB (m7_in hX x3 0 10000 ) ml_7_93 st_7_in in_7 cd_7_in hd7_in ⟨⟨rfl, rfl⟩, by decide, by decide⟩ ⟨Nat.zero_le _, Nat.zero_le _⟩ hl.1 rfl (Nat.le_of_ble_eq_true rfl) d7_item_15 ?_
    refine lv_if_eq (tgt := 30) hx hb d7_item_18 (by decide) (fun c_2 => ?_) (fun c_2 => ?_)
    · refine lv_iconst (v := (-1)) hx hb d7_item_30 (by decide) ?_
      exact se_i C0 hB (by rw [if_neg c_1, if_pos c_2] at hO; exact hO) d7_item_31
    · refine lv_aload_n hx hb d7_item_21 rfl (lv_at hl 0 rfl) ?_
      refine sr_get (v := .ref (ad 31 0)) hx hb hw hown hK hB 10 (hX 20 (by decide)) cf_20 us7 (by decide) fl_7_33 (rfl) d7_item_22 ?_
      refine lv_iload_n hx hb d7_item_25 rfl (lv_at hl 1 rfl) ?_
      refine sr_zald (v := A 31 0 (x1.toNatClampNeg)) hx hb hK hB (hX 31 (by decide)) rfl rfl (by (refine vp_in_iff.mpr ?_); (show 0 ≤ x1.toInt ∧ x1.toInt < ((32 : Nat) : Int)); (have kc_1 := in_t c_1); (have l0 : (0 : Int32).toInt = 0 := rfl); (have l31 : (31 : Int32).toInt = 31 := rfl);  omega) d7_item_26 (rfl) ?_
      refine lv_if_eq (tgt := 32) hx hb d7_item_27 (by decide) (fun c_3 => ?_) (fun c_3 => ?_)
      · refine lv_aload_n hx hb d7_item_32 rfl (lv_at hl 0 rfl) ?_
        refine sr_get (v := .ref (ad 31 0)) hx hb hw hown hK hB 10 (hX 20 (by decide)) cf_20 us7 (by decide) fl_7_33 (rfl) d7_item_33 ?_
        refine lv_iload_n hx hb d7_item_36 rfl (lv_at hl 1 rfl) ?_
        refine lv_iconst (v := 1) hx hb d7_item_37 (by decide) ?_
        refine sr_zast hx hb hK hB (hX 31 (by decide)) rfl rfl rfl (by (refine vp_in_iff.mpr ?_); (show 0 ≤ x1.toInt ∧ x1.toInt < ((32 : Nat) : Int)); (have kc_1 := in_t c_1); (have l0 : (0 : Int32).toInt = 0 := rfl); (have l31 : (31 : Int32).toInt = 31 := rfl);  omega) d7_item_38 (fun H locs hB => ?_)
        refine lv_aload_n hx hb d7_item_39 rfl (lv_at hl 0 rfl) ?_
        refine sr_get (v := .ref (ad 32 0)) hx hb hw hown hK hB 11 (hX 20 (by decide)) cf_20 us7 (by decide) fl_7_36 (rfl) d7_item_40 ?_
        refine lv_iload_n hx hb d7_item_43 rfl (lv_at hl 1 rfl) ?_
        refine lv_iload_n hx hb d7_item_44 rfl (lv_at hl 2 rfl) ?_
        refine sr_zast hx hb hK hB (hX 32 (by decide)) rfl rfl (nb_n (by assumption)) (by (refine vp_in_iff.mpr ?_); (show 0 ≤ x1.toInt ∧ x1.toInt < ((32 : Nat) : Int)); (have kc_1 := in_t c_1); (have l0 : (0 : Int32).toInt = 0 := rfl); (have l31 : (31 : Int32).toInt = 31 := rfl);  omega) d7_item_45 (fun H locs hB => ?_)
        refine lv_aload_n hx hb d7_item_46 rfl (lv_at hl 0 rfl) ?_
        refine sr_get (v := .ref (ad 33 0)) hx hb hw hown hK hB 12 (hX 20 (by decide)) cf_20 us7 (by decide) fl_7_39 (rfl) d7_item_47 ?_
        refine lv_iload_n hx hb d7_item_50 rfl (lv_at hl 1 rfl) ?_
        refine lv_iload_n hx hb d7_item_51 rfl (lv_at hl 3 rfl) ?_
        refine sr_iast hx hb hK hB (hX 33 (by decide)) rfl rfl (by (refine vp_in_iff.mpr ?_); (show 0 ≤ x1.toInt ∧ x1.toInt < ((32 : Nat) : Int)); (have kc_1 := in_t c_1); (have l0 : (0 : Int32).toInt = 0 := rfl); (have l31 : (31 : Int32).toInt = 31 := rfl);  omega) d7_item_52 (fun H locs hB => ?_)
        refine lv_iconst (v := 0) hx hb d7_item_53 (by decide) ?_
        exact se_i C0 hB (by rw [if_neg c_1, if_neg c_2, if_pos c_3] at hO; exact hO) d7_item_54
      · refine lv_iconst (v := (-1)) hx hb d7_item_30 (by decide) ?_
        exact se_i C0 hB (by rw [if_neg c_1, if_neg c_2, if_neg c_3] at hO; exact hO) d7_item_31
theorem hd7_item : y7_item.cls = R7 ∧ y7_item.cls ≠ "java/lang/invoke/MethodHandle" ∧ y7_item.cls ≠ "java/lang/invoke/VarHandle" ∧ (parseMethodDescriptor y7_item.desc).map (fun d => d.parameters.length) = some 3 := ⟨rfl, by decide, by decide, by decide +kernel⟩
theorem m7_item {l : Launch} {D : va_G} {aC : Nat → ClassId} {ad : Nat → Nat → Nat} {X : Nat → Nat → Prop} {S A : sS} {G : sG} (hX : xR X) (x1 : Int32) (x2 : Int32) (x3 : Int32) (hb2 : x2 = 0 ∨ x2 = 1) : Met l y7_item (.code y7_item b7_item 4 (some .int) :: wall) (rmk 1) (s_Pc [.ref (ad 20 0), .int x1, .int x2, .int x3] D aC ad X S A G) (s_Qi D aC ad X G (O7_item S A G x1 x2 x3)) 0 0 (s_N ad X) :=
  s_met (by decide) rfl (Nat.le_of_ble_eq_true rfl) (fun p e s m args below meth c C0 hB ls hl => k7_item_0 C0 hB hX x1 x2 x3 hb2 hl rfl)

def O7_logout (S A : sS) (G : sG)  : Int32 × sS × sS := if S 20 0 6 < 0 then ((-2), S, A) else if S 20 0 27 < 0 then (S 20 0 6, (up3 (up3 S 20 0 6 (-1)) 20 0 8 (-1)), A) else ((-4), S, A)
set_option maxRecDepth 100000 in
set_option maxHeartbeats 4000000 in
theorem k7_logout_0 {p : Program} {l : Launch} {e : Env} {s : State} {m : MethodId} {args : Array Value} {below : List Frame} {meth : Method} {c : Code} {D : va_G} {aC : Nat → ClassId} {ad : Nat → Nat → Nat} {X : Nat → Nat → Prop} {S A : sS} {G : sG} {H : Heap} {locs : List Loc} (C0 : s_C p s m args meth c b7_logout 2 R7 (some .int) D aC) (hB : s_B D aC ad X (s_N ad X) S A G s.heap H locs) (hX : xR X)   {ls : Array Slot} (hl : lv_has ls 2 [(0, .ref (ad 20 0))]) {o : Int32 × sS × sS} (hO : O7_logout S A G  = o) : W p l e (rmk 0) s m args below meth c H locs 0 0 (MQ below (s_Qi D aC ad X G o) args s 0 0 (s_N ad X)) (F0 m 0 ls []) := by
  obtain ⟨hx, hb, hml, hown, hw, hK, hr, hlocks⟩ := id C0
  unfold O7_logout at hO
  refine lv_aload_n hx hb d7_logout_0 rfl (lv_at hl 0 rfl) ?_
  refine sr_get (v := .int (S 20 0 6)) hx hb hw hown hK hB 6 (hX 20 (by decide)) cf_20 us7 (by decide) fl_7_26 (rfl) d7_logout_1 ?_
  refine lv_if_lt (tgt := 14) hx hb d7_logout_4 (by decide) (fun c_1 => ?_) (fun c_1 => ?_)
  · refine lv_aload_n hx hb d7_logout_14 rfl (lv_at hl 0 rfl) ?_
    refine sr_get (v := .int (S 20 0 6)) hx hb hw hown hK hB 6 (hX 20 (by decide)) cf_20 us7 (by decide) fl_7_26 (rfl) d7_logout_15 ?_
    refine lv_if_ge (tgt := 26) hx hb d7_logout_18 (by decide) (fun c => absurd c (Int32.not_le.mpr c_1)) (fun _ => ?_)
    refine lv_bipush (v := (-2)) hx hb d7_logout_21 (by decide) ?_
    refine lv_goto (tgt := 28) hx hb d7_logout_23 (by decide) ?_
    exact se_i C0 hB (by rw [if_pos c_1] at hO; exact hO) d7_logout_28
  · refine lv_aload_n hx hb d7_logout_7 rfl (lv_at hl 0 rfl) ?_
    refine sr_get (v := .int (S 20 0 27)) hx hb hw hown hK hB 27 (hX 20 (by decide)) cf_20 us7 (by decide) fl_7_81 (rfl) d7_logout_8 ?_
    refine lv_if_lt (tgt := 29) hx hb d7_logout_11 (by decide) (fun c_3 => ?_) (fun c_3 => ?_)
    · refine lv_aload_n hx hb d7_logout_29 rfl (lv_at hl 0 rfl) ?_
      refine sr_get (v := .int (S 20 0 6)) hx hb hw hown hK hB 6 (hX 20 (by decide)) cf_20 us7 (by decide) fl_7_26 (rfl) d7_logout_30 ?_
      refine lv_istore_n (lv' := [(1, .int (S 20 0 6)), (0, .ref (ad 20 0))]) hx hb d7_logout_33 rfl hl (by decide) rfl (fun ls hl => ?_)
      refine lv_aload_n hx hb d7_logout_34 rfl (lv_at hl 1 rfl) ?_
      refine lv_iconst (v := (-1)) hx hb d7_logout_35 (by decide) ?_
      refine sr_put hx hb hw hown hK hB 6 (hX 20 (by decide)) cf_20 us7 tk7 nm7 (by decide) fl_7_26 rfl rfl rfl rfl d7_logout_36 (fun H locs hB => ?_)
      refine lv_aload_n hx hb d7_logout_39 rfl (lv_at hl 1 rfl) ?_
      refine lv_iconst (v := (-1)) hx hb d7_logout_40 (by decide) ?_
      refine sr_put hx hb hw hown hK hB 8 (hX 20 (by decide)) cf_20 us7 tk7 nm7 (by decide) fl_7_30 rfl rfl rfl rfl d7_logout_41 (fun H locs hB => ?_)
      refine lv_iload_n hx hb d7_logout_44 rfl (lv_at hl 0 rfl) ?_
      exact se_i C0 hB (by rw [if_neg c_1, if_pos c_3] at hO; exact hO) d7_logout_45
    · refine lv_aload_n hx hb d7_logout_14 rfl (lv_at hl 0 rfl) ?_
      refine sr_get (v := .int (S 20 0 6)) hx hb hw hown hK hB 6 (hX 20 (by decide)) cf_20 us7 (by decide) fl_7_26 (rfl) d7_logout_15 ?_
      refine lv_if_ge (tgt := 26) hx hb d7_logout_18 (by decide) (fun _ => ?_) (fun c => absurd (Int32.not_lt.mp c_1) c)
      refine lv_bipush (v := (-4)) hx hb d7_logout_26 (by decide) ?_
      exact se_i C0 hB (by rw [if_neg c_1, if_neg c_3] at hO; exact hO) d7_logout_28
theorem hd7_logout : y7_logout.cls = R7 ∧ y7_logout.cls ≠ "java/lang/invoke/MethodHandle" ∧ y7_logout.cls ≠ "java/lang/invoke/VarHandle" ∧ (parseMethodDescriptor y7_logout.desc).map (fun d => d.parameters.length) = some 0 := ⟨rfl, by decide, by decide, by decide +kernel⟩
theorem m7_logout {l : Launch} {D : va_G} {aC : Nat → ClassId} {ad : Nat → Nat → Nat} {X : Nat → Nat → Prop} {S A : sS} {G : sG} (hX : xR X)   : Met l y7_logout (.code y7_logout b7_logout 2 (some .int) :: wall) (rmk 0) (s_Pc [.ref (ad 20 0)] D aC ad X S A G) (s_Qi D aC ad X G (O7_logout S A G )) 0 0 (s_N ad X) :=
  s_met (by decide) rfl (Nat.le_of_ble_eq_true rfl) (fun p e s m args below meth c C0 hB ls hl => k7_logout_0 C0 hB hX   hl rfl)

def O7_tick (S A : sS) (G : sG) (x1 : Int32) : Int32 × sS × sS := if V7_in S A G x1 1 1000 = 0 then ((-1), S, A) else if S 20 0 6 < 0 then ((S 20 0 0) + x1, (up3 S 20 0 0 ((S 20 0 0) + x1)), A) else if 0 ≤ S 20 0 27 then ((S 20 0 0) + x1, (up3 S 20 0 0 ((S 20 0 0) + x1)), A) else if ((S 20 0 0) + x1) - (S 20 0 7) < 120 then ((S 20 0 0) + x1, (up3 S 20 0 0 ((S 20 0 0) + x1)), A) else ((S 20 0 0) + x1, (up3 (up3 (up3 S 20 0 0 ((S 20 0 0) + x1)) 20 0 6 (-1)) 20 0 8 (-1)), A)
set_option maxRecDepth 100000 in
set_option maxHeartbeats 4000000 in
theorem k7_tick_0 {p : Program} {l : Launch} {e : Env} {s : State} {m : MethodId} {args : Array Value} {below : List Frame} {meth : Method} {c : Code} {D : va_G} {aC : Nat → ClassId} {ad : Nat → Nat → Nat} {X : Nat → Nat → Prop} {S A : sS} {G : sG} {H : Heap} {locs : List Loc} (C0 : s_C p s m args meth c b7_tick 2 R7 (some .int) D aC) (hB : s_B D aC ad X (s_N ad X) S A G s.heap H locs) (hX : xR X) (x1 : Int32)  {ls : Array Slot} (hl : lv_has ls 2 [(0, .ref (ad 20 0)), (1, .int x1)]) {o : Int32 × sS × sS} (hO : O7_tick S A G x1 = o) : W p l e (rmk 1) s m args below meth c H locs 0 0 (MQ below (s_Qi D aC ad X G o) args s 0 0 (s_N ad X)) (F0 m 0 ls []) := by
  obtain ⟨hx, hb, hml, hown, hw, hK, hr, hlocks⟩ := id C0
  unfold O7_tick at hO
  refine lv_iload_n hx hb d7_tick_0 rfl (lv_at hl 1 rfl) ?_
  refine lv_iconst (v := 1) hx hb d7_tick_1 (by decide) ?_
  refine lv_sipush (v := 1000) hx hb d7_tick_2 (by decide) ?_
  refine sr_sp C0 hB (m7_in hX x1 1 1000 ) ml_7_93 st_7_in in_7 cd_7_in hd7_in ⟨⟨rfl, rfl⟩, by decide, by decide⟩ ⟨Nat.zero_le _, Nat.zero_le _⟩ hl.1 rfl (Nat.le_of_ble_eq_true rfl) d7_tick_5 ?_
  refine lv_if_ne (tgt := 13) hx hb d7_tick_8 (by decide) (fun c_1 => ?_) (fun c_1 => ?_)
  · refine lv_aload_n hx hb d7_tick_13 rfl (lv_at hl 0 rfl) ?_
    refine lv_dup hx hb d7_tick_14 rfl ?_
    refine sr_get (v := .int (S 20 0 0)) hx hb hw hown hK hB 0 (hX 20 (by decide)) cf_20 us7 (by decide) fl_7_100 (rfl) d7_tick_15 ?_
    refine lv_iload_n hx hb d7_tick_18 rfl (lv_at hl 1 rfl) ?_
    refine lv_iadd hx hb d7_tick_19 ?_
    refine sr_put hx hb hw hown hK hB 0 (hX 20 (by decide)) cf_20 us7 tk7 nm7 (by decide) fl_7_100 rfl rfl rfl rfl d7_tick_20 (fun H locs hB => ?_)
    refine lv_aload_n hx hb d7_tick_23 rfl (lv_at hl 0 rfl) ?_
    refine sr_get (v := .int (S 20 0 6)) hx hb hw hown hK hB 6 (hX 20 (by decide)) cf_20 us7 (by decide) fl_7_26 (rfl) d7_tick_24 ?_
    refine lv_if_lt (tgt := 61) hx hb d7_tick_27 (by decide) (fun c_2 => ?_) (fun c_2 => ?_)
    · refine lv_aload_n hx hb d7_tick_61 rfl (lv_at hl 0 rfl) ?_
      refine sr_get (v := .int ((S 20 0 0) + x1)) hx hb hw hown hK hB 0 (hX 20 (by decide)) cf_20 us7 (by decide) fl_7_100 (congrArg Value.int (up3_s)) d7_tick_62 ?_
      exact se_i C0 hB (by rw [if_neg c_1, if_pos c_2] at hO; exact hO) d7_tick_65
    · refine lv_aload_n hx hb d7_tick_30 rfl (lv_at hl 0 rfl) ?_
      refine sr_get (v := .int (S 20 0 27)) hx hb hw hown hK hB 27 (hX 20 (by decide)) cf_20 us7 (by decide) fl_7_81 (rfl) d7_tick_31 ?_
      refine lv_if_ge (tgt := 61) hx hb d7_tick_34 (by decide) (fun c_3 => ?_) (fun c_3 => ?_)
      · refine lv_aload_n hx hb d7_tick_61 rfl (lv_at hl 0 rfl) ?_
        refine sr_get (v := .int ((S 20 0 0) + x1)) hx hb hw hown hK hB 0 (hX 20 (by decide)) cf_20 us7 (by decide) fl_7_100 (congrArg Value.int (up3_s)) d7_tick_62 ?_
        exact se_i C0 hB (by rw [if_neg c_1, if_neg c_2, if_pos c_3] at hO; exact hO) d7_tick_65
      · refine lv_aload_n hx hb d7_tick_37 rfl (lv_at hl 0 rfl) ?_
        refine sr_get (v := .int ((S 20 0 0) + x1)) hx hb hw hown hK hB 0 (hX 20 (by decide)) cf_20 us7 (by decide) fl_7_100 (congrArg Value.int (up3_s)) d7_tick_38 ?_
        refine lv_aload_n hx hb d7_tick_41 rfl (lv_at hl 0 rfl) ?_
        refine sr_get (v := .int (S 20 0 7)) hx hb hw hown hK hB 7 (hX 20 (by decide)) cf_20 us7 (by decide) fl_7_114 (rfl) d7_tick_42 ?_
        refine lv_isub hx hb d7_tick_45 ?_
        refine lv_bipush (v := 120) hx hb d7_tick_46 (by decide) ?_
        refine lv_icmp_lt (tgt := 61) hx hb d7_tick_48 (by decide) (fun c_4 => ?_) (fun c_4 => ?_)
        · refine lv_aload_n hx hb d7_tick_61 rfl (lv_at hl 0 rfl) ?_
          refine sr_get (v := .int ((S 20 0 0) + x1)) hx hb hw hown hK hB 0 (hX 20 (by decide)) cf_20 us7 (by decide) fl_7_100 (congrArg Value.int (up3_s)) d7_tick_62 ?_
          exact se_i C0 hB (by rw [if_neg c_1, if_neg c_2, if_neg c_3, if_pos c_4] at hO; exact hO) d7_tick_65
        · refine lv_aload_n hx hb d7_tick_51 rfl (lv_at hl 0 rfl) ?_
          refine lv_iconst (v := (-1)) hx hb d7_tick_52 (by decide) ?_
          refine sr_put hx hb hw hown hK hB 6 (hX 20 (by decide)) cf_20 us7 tk7 nm7 (by decide) fl_7_26 rfl rfl rfl rfl d7_tick_53 (fun H locs hB => ?_)
          refine lv_aload_n hx hb d7_tick_56 rfl (lv_at hl 0 rfl) ?_
          refine lv_iconst (v := (-1)) hx hb d7_tick_57 (by decide) ?_
          refine sr_put hx hb hw hown hK hB 8 (hX 20 (by decide)) cf_20 us7 tk7 nm7 (by decide) fl_7_30 rfl rfl rfl rfl d7_tick_58 (fun H locs hB => ?_)
          refine lv_aload_n hx hb d7_tick_61 rfl (lv_at hl 0 rfl) ?_
          refine sr_get (v := .int ((S 20 0 0) + x1)) hx hb hw hown hK hB 0 (hX 20 (by decide)) cf_20 us7 (by decide) fl_7_100 (congrArg Value.int (by simp [up3])) d7_tick_62 ?_
          exact se_i C0 hB (by rw [if_neg c_1, if_neg c_2, if_neg c_3, if_neg c_4] at hO; exact hO) d7_tick_65
  · refine lv_iconst (v := (-1)) hx hb d7_tick_11 (by decide) ?_
    exact se_i C0 hB (by rw [if_pos c_1] at hO; exact hO) d7_tick_12
theorem hd7_tick : y7_tick.cls = R7 ∧ y7_tick.cls ≠ "java/lang/invoke/MethodHandle" ∧ y7_tick.cls ≠ "java/lang/invoke/VarHandle" ∧ (parseMethodDescriptor y7_tick.desc).map (fun d => d.parameters.length) = some 1 := ⟨rfl, by decide, by decide, by decide +kernel⟩
theorem m7_tick {l : Launch} {D : va_G} {aC : Nat → ClassId} {ad : Nat → Nat → Nat} {X : Nat → Nat → Prop} {S A : sS} {G : sG} (hX : xR X) (x1 : Int32)  : Met l y7_tick (.code y7_tick b7_tick 2 (some .int) :: wall) (rmk 1) (s_Pc [.ref (ad 20 0), .int x1] D aC ad X S A G) (s_Qi D aC ad X G (O7_tick S A G x1)) 0 0 (s_N ad X) :=
  s_met (by decide) rfl (Nat.le_of_ble_eq_true rfl) (fun p e s m args below meth c C0 hB ls hl => k7_tick_0 C0 hB hX x1  hl rfl)

def O7_lose (S A : sS) (G : sG) (x1 : Int32) : Int32 × sS × sS := if V7_in S A G x1 0 1 = 0 then ((-1), S, A) else (V7_wholeCopies S (up3 A 57 0 (x1.toNatClampNeg) 1) G , S, (up3 A 57 0 (x1.toNatClampNeg) 1))
set_option maxRecDepth 100000 in
set_option maxHeartbeats 4000000 in
theorem k7_lose_0 {p : Program} {l : Launch} {e : Env} {s : State} {m : MethodId} {args : Array Value} {below : List Frame} {meth : Method} {c : Code} {D : va_G} {aC : Nat → ClassId} {ad : Nat → Nat → Nat} {X : Nat → Nat → Prop} {S A : sS} {G : sG} {H : Heap} {locs : List Loc} (C0 : s_C p s m args meth c b7_lose 2 R7 (some .int) D aC) (hB : s_B D aC ad X (s_N ad X) S A G s.heap H locs) (hX : xR X) (x1 : Int32)  {ls : Array Slot} (hl : lv_has ls 2 [(0, .ref (ad 20 0)), (1, .int x1)]) {o : Int32 × sS × sS} (hO : O7_lose S A G x1 = o) : W p l e (rmk 1) s m args below meth c H locs 0 0 (MQ below (s_Qi D aC ad X G o) args s 0 0 (s_N ad X)) (F0 m 0 ls []) := by
  obtain ⟨hx, hb, hml, hown, hw, hK, hr, hlocks⟩ := id C0
  unfold O7_lose at hO
  refine lv_iload_n hx hb d7_lose_0 rfl (lv_at hl 1 rfl) ?_
  refine lv_iconst (v := 0) hx hb d7_lose_1 (by decide) ?_
  refine lv_iconst (v := 1) hx hb d7_lose_2 (by decide) ?_
  refine sr_sp C0 hB (m7_in hX x1 0 1 ) ml_7_93 st_7_in in_7 cd_7_in hd7_in ⟨⟨rfl, rfl⟩, by decide, by decide⟩ ⟨Nat.zero_le _, Nat.zero_le _⟩ hl.1 rfl (Nat.le_of_ble_eq_true rfl) d7_lose_3 ?_
  refine lv_if_ne (tgt := 11) hx hb d7_lose_6 (by decide) (fun c_1 => ?_) (fun c_1 => ?_)
  · refine lv_aload_n hx hb d7_lose_11 rfl (lv_at hl 0 rfl) ?_
    refine sr_get (v := .ref (ad 57 0)) hx hb hw hown hK hB 36 (hX 20 (by decide)) cf_20 us7 (by decide) fl_7_87 (rfl) d7_lose_12 ?_
    refine lv_iload_n hx hb d7_lose_15 rfl (lv_at hl 1 rfl) ?_
    refine lv_iconst (v := 1) hx hb d7_lose_16 (by decide) ?_
    refine sr_zast hx hb hK hB (hX 57 (by decide)) rfl rfl rfl (by (refine vp_in_iff.mpr ?_); (show 0 ≤ x1.toInt ∧ x1.toInt < ((2 : Nat) : Int)); (have kc_1 := in_t c_1); (have l0 : (0 : Int32).toInt = 0 := rfl); (have l1 : (1 : Int32).toInt = 1 := rfl);  omega) d7_lose_17 (fun H locs hB => ?_)
    refine lv_aload_n hx hb d7_lose_18 rfl (lv_at hl 0 rfl) ?_
    refine sr_vp C0 hB (m7_wholeCopies hX  ) (hX 20 (by decide)) cf_20 ml_7_197 im_7_wholeCopies se_7_wholeCopies in_7 cd_7_wholeCopies hd7_wholeCopies ⟨⟨rfl, rfl⟩, by decide, by decide⟩ ⟨Nat.zero_le _, Nat.zero_le _⟩ hl.1 rfl (Nat.le_of_ble_eq_true rfl) d7_lose_19 ?_
    exact se_i C0 hB (by rw [if_neg c_1] at hO; exact hO) d7_lose_22
  · refine lv_iconst (v := (-1)) hx hb d7_lose_9 (by decide) ?_
    exact se_i C0 hB (by rw [if_pos c_1] at hO; exact hO) d7_lose_10
theorem hd7_lose : y7_lose.cls = R7 ∧ y7_lose.cls ≠ "java/lang/invoke/MethodHandle" ∧ y7_lose.cls ≠ "java/lang/invoke/VarHandle" ∧ (parseMethodDescriptor y7_lose.desc).map (fun d => d.parameters.length) = some 1 := ⟨rfl, by decide, by decide, by decide +kernel⟩
theorem m7_lose {l : Launch} {D : va_G} {aC : Nat → ClassId} {ad : Nat → Nat → Nat} {X : Nat → Nat → Prop} {S A : sS} {G : sG} (hX : xR X) (x1 : Int32)  : Met l y7_lose (.code y7_lose b7_lose 2 (some .int) :: wall) (rmk 1) (s_Pc [.ref (ad 20 0), .int x1] D aC ad X S A G) (s_Qi D aC ad X G (O7_lose S A G x1)) 0 0 (s_N ad X) :=
  s_met (by decide) rfl (Nat.le_of_ble_eq_true rfl) (fun p e s m args below meth c C0 hB ls hl => k7_lose_0 C0 hB hX x1  hl rfl)

def O7_repair (S A : sS) (G : sG)  : Int32 × sS × sS := if V7_wholeCopies S A G  = 0 then ((-8), S, A) else (2, S, (up3 (up3 A 57 0 0 0) 57 0 1 0))
set_option maxRecDepth 100000 in
set_option maxHeartbeats 4000000 in
theorem k7_repair_0 {p : Program} {l : Launch} {e : Env} {s : State} {m : MethodId} {args : Array Value} {below : List Frame} {meth : Method} {c : Code} {D : va_G} {aC : Nat → ClassId} {ad : Nat → Nat → Nat} {X : Nat → Nat → Prop} {S A : sS} {G : sG} {H : Heap} {locs : List Loc} (C0 : s_C p s m args meth c b7_repair 1 R7 (some .int) D aC) (hB : s_B D aC ad X (s_N ad X) S A G s.heap H locs) (hX : xR X)   {ls : Array Slot} (hl : lv_has ls 1 [(0, .ref (ad 20 0))]) {o : Int32 × sS × sS} (hO : O7_repair S A G  = o) : W p l e (rmk 1) s m args below meth c H locs 0 0 (MQ below (s_Qi D aC ad X G o) args s 0 0 (s_N ad X)) (F0 m 0 ls []) := by
  obtain ⟨hx, hb, hml, hown, hw, hK, hr, hlocks⟩ := id C0
  unfold O7_repair at hO
  refine lv_aload_n hx hb d7_repair_0 rfl (lv_at hl 0 rfl) ?_
  refine sr_vp C0 hB (m7_wholeCopies hX  ) (hX 20 (by decide)) cf_20 ml_7_197 im_7_wholeCopies se_7_wholeCopies in_7 cd_7_wholeCopies hd7_wholeCopies ⟨⟨rfl, rfl⟩, by decide, by decide⟩ ⟨Nat.zero_le _, Nat.zero_le _⟩ hl.1 rfl (Nat.le_of_ble_eq_true rfl) d7_repair_1 ?_
  refine lv_if_ne (tgt := 10) hx hb d7_repair_4 (by decide) (fun c_1 => ?_) (fun c_1 => ?_)
  · refine lv_aload_n hx hb d7_repair_10 rfl (lv_at hl 0 rfl) ?_
    refine sr_get (v := .ref (ad 57 0)) hx hb hw hown hK hB 36 (hX 20 (by decide)) cf_20 us7 (by decide) fl_7_87 (rfl) d7_repair_11 ?_
    refine lv_iconst (v := 0) hx hb d7_repair_14 (by decide) ?_
    refine lv_iconst (v := 0) hx hb d7_repair_15 (by decide) ?_
    refine sr_zast hx hb hK hB (hX 57 (by decide)) rfl rfl rfl (by (refine vp_in_iff.mpr ?_); decide) d7_repair_16 (fun H locs hB => ?_)
    have hB : s_B D aC ad X (s_N ad X) S (up3 A 57 0 0 0) G s.heap H locs := hB
    refine lv_aload_n hx hb d7_repair_17 rfl (lv_at hl 0 rfl) ?_
    refine sr_get (v := .ref (ad 57 0)) hx hb hw hown hK hB 36 (hX 20 (by decide)) cf_20 us7 (by decide) fl_7_87 (rfl) d7_repair_18 ?_
    refine lv_iconst (v := 1) hx hb d7_repair_21 (by decide) ?_
    refine lv_iconst (v := 0) hx hb d7_repair_22 (by decide) ?_
    refine sr_zast hx hb hK hB (hX 57 (by decide)) rfl rfl rfl (by (refine vp_in_iff.mpr ?_); decide) d7_repair_23 (fun H locs hB => ?_)
    have hB : s_B D aC ad X (s_N ad X) S (up3 (up3 A 57 0 0 0) 57 0 1 0) G s.heap H locs := hB
    refine lv_iconst (v := 2) hx hb d7_repair_24 (by decide) ?_
    exact se_i C0 hB (by rw [if_neg c_1] at hO; exact hO) d7_repair_25
  · refine lv_bipush (v := (-8)) hx hb d7_repair_7 (by decide) ?_
    exact se_i C0 hB (by rw [if_pos c_1] at hO; exact hO) d7_repair_9
theorem hd7_repair : y7_repair.cls = R7 ∧ y7_repair.cls ≠ "java/lang/invoke/MethodHandle" ∧ y7_repair.cls ≠ "java/lang/invoke/VarHandle" ∧ (parseMethodDescriptor y7_repair.desc).map (fun d => d.parameters.length) = some 0 := ⟨rfl, by decide, by decide, by decide +kernel⟩
theorem m7_repair {l : Launch} {D : va_G} {aC : Nat → ClassId} {ad : Nat → Nat → Nat} {X : Nat → Nat → Prop} {S A : sS} {G : sG} (hX : xR X)   : Met l y7_repair (.code y7_repair b7_repair 1 (some .int) :: wall) (rmk 1) (s_Pc [.ref (ad 20 0)] D aC ad X S A G) (s_Qi D aC ad X G (O7_repair S A G )) 0 0 (s_N ad X) :=
  s_met (by decide) rfl (Nat.le_of_ble_eq_true rfl) (fun p e s m args below meth c C0 hB ls hl => k7_repair_0 C0 hB hX   hl rfl)

def V7_mismatch (S A : sS) (G : sG) (x1 : Int32) : Int32 := if V7_in S A G x1 0 ((S 20 0 37) - 1) = 0 then (-1) else A 59 0 (x1.toNatClampNeg)
set_option maxRecDepth 100000 in
set_option maxHeartbeats 4000000 in
theorem k7_mismatch_0 {p : Program} {l : Launch} {e : Env} {s : State} {m : MethodId} {args : Array Value} {below : List Frame} {meth : Method} {c : Code} {D : va_G} {aC : Nat → ClassId} {ad : Nat → Nat → Nat} {X : Nat → Nat → Prop} {S A : sS} {G : sG} (C0 : s_C p s m args meth c b7_mismatch 2 R7 (some .int) D aC) (hB : s_B D aC ad X (s_N ad X) S A G s.heap s.heap []) (hX : xR X) (x1 : Int32) (hmm : 0 ≤ (S 20 0 37).toInt ∧ (S 20 0 37).toInt ≤ 64) {ls : Array Slot} (hl : lv_has ls 2 [(0, .ref (ad 20 0)), (1, .int x1)]) {o : Int32} (hO : V7_mismatch S A G x1 = o) : W p l e (rmk 1) s m args below meth c s.heap [] 0 0 (MQ below (s_Qp o) args s 0 0 (fun _ => False)) (F0 m 0 ls []) := by
  obtain ⟨hx, hb, hml, hown, hw, hK, hr, hlocks⟩ := id C0
  unfold V7_mismatch at hO
  refine lv_iload_n hx hb d7_mismatch_0 rfl (lv_at hl 1 rfl) ?_
  refine lv_iconst (v := 0) hx hb d7_mismatch_1 (by decide) ?_
  refine lv_aload_n hx hb d7_mismatch_2 rfl (lv_at hl 0 rfl) ?_
  refine sr_get (v := .int (S 20 0 37)) hx hb hw hown hK hB 37 (hX 20 (by decide)) cf_20 us7 (by decide) fl_7_188 (rfl) d7_mismatch_3 ?_
  refine lv_iconst (v := 1) hx hb d7_mismatch_6 (by decide) ?_
  refine lv_isub hx hb d7_mismatch_7 ?_
  refine sr_sp C0 hB (m7_in hX x1 0 ((S 20 0 37) - 1) ) ml_7_93 st_7_in in_7 cd_7_in hd7_in ⟨⟨rfl, rfl⟩, by decide, by decide⟩ ⟨Nat.zero_le _, Nat.zero_le _⟩ hl.1 rfl (Nat.le_of_ble_eq_true rfl) d7_mismatch_8 ?_
  refine lv_if_eq (tgt := 23) hx hb d7_mismatch_11 (by decide) (fun c_1 => ?_) (fun c_1 => ?_)
  · refine lv_iconst (v := (-1)) hx hb d7_mismatch_23 (by decide) ?_
    exact se_pi C0 (by rw [if_pos c_1] at hO; exact hO) d7_mismatch_24
  · refine lv_aload_n hx hb d7_mismatch_14 rfl (lv_at hl 0 rfl) ?_
    refine sr_get (v := .ref (ad 59 0)) hx hb hw hown hK hB 38 (hX 20 (by decide)) cf_20 us7 (by decide) fl_7_90 (rfl) d7_mismatch_15 ?_
    refine lv_iload_n hx hb d7_mismatch_18 rfl (lv_at hl 1 rfl) ?_
    refine sr_iald (v := A 59 0 (x1.toNatClampNeg)) hx hb hK hB (hX 59 (by decide)) rfl rfl (by (refine vp_in_iff.mpr ?_); (show 0 ≤ x1.toInt ∧ x1.toInt < ((64 : Nat) : Int)); (have a1 := sub1_i (x := S 20 0 37) (by omega)); (have kc_1 := in_t c_1); (have l0 : (0 : Int32).toInt = 0 := rfl); (have l1 : (1 : Int32).toInt = 1 := rfl); (have l20 : (20 : Int32).toInt = 20 := rfl); (have l37 : (37 : Int32).toInt = 37 := rfl);  omega) d7_mismatch_19 (rfl) ?_
    refine lv_goto (tgt := 24) hx hb d7_mismatch_20 (by decide) ?_
    exact se_pi C0 (by rw [if_neg c_1] at hO; exact hO) d7_mismatch_24
theorem hd7_mismatch : y7_mismatch.cls = R7 ∧ y7_mismatch.cls ≠ "java/lang/invoke/MethodHandle" ∧ y7_mismatch.cls ≠ "java/lang/invoke/VarHandle" ∧ (parseMethodDescriptor y7_mismatch.desc).map (fun d => d.parameters.length) = some 1 := ⟨rfl, by decide, by decide, by decide +kernel⟩
theorem m7_mismatch {l : Launch} {D : va_G} {aC : Nat → ClassId} {ad : Nat → Nat → Nat} {X : Nat → Nat → Prop} {S A : sS} {G : sG} (hX : xR X) (x1 : Int32) (hmm : 0 ≤ (S 20 0 37).toInt ∧ (S 20 0 37).toInt ≤ 64) : Met l y7_mismatch (.code y7_mismatch b7_mismatch 2 (some .int) :: wall) (rmk 1) (s_Pc [.ref (ad 20 0), .int x1] D aC ad X S A G) (s_Qp (V7_mismatch S A G x1)) 0 0 (fun _ => False) :=
  s_met (by decide) rfl (Nat.le_of_ble_eq_true rfl) (fun p e s m args below meth c C0 hB ls hl => k7_mismatch_0 C0 hB hX x1 hmm hl rfl)

def V7_told (S A : sS) (G : sG) (x1 : Int32) : Int32 := if x1 = 0 then S 20 0 0 else if x1 = 1 then S 20 0 6 else if x1 = 2 then if V7_isWatched S A G  = 0 then (-1) else S 20 0 8 else if x1 = 3 then S 20 0 27 else if x1 = 4 then if 0 ≤ S 20 0 27 then S 20 0 28 else (-1) else if x1 = 5 then if 0 ≤ S 20 0 27 then if S 20 0 31 = 0 then 0 else if S 20 0 32 = 0 then 1 else 0 else (-1) else if x1 = 6 then S 20 0 34 else (-1)
set_option maxRecDepth 100000 in
set_option maxHeartbeats 4000000 in
theorem k7_told_0 {p : Program} {l : Launch} {e : Env} {s : State} {m : MethodId} {args : Array Value} {below : List Frame} {meth : Method} {c : Code} {D : va_G} {aC : Nat → ClassId} {ad : Nat → Nat → Nat} {X : Nat → Nat → Prop} {S A : sS} {G : sG} (C0 : s_C p s m args meth c b7_told 2 R7 (some .int) D aC) (hB : s_B D aC ad X (s_N ad X) S A G s.heap s.heap []) (hX : xR X) (x1 : Int32)  {ls : Array Slot} (hl : lv_has ls 2 [(0, .ref (ad 20 0)), (1, .int x1)]) {o : Int32} (hO : V7_told S A G x1 = o) : W p l e (rmk 1) s m args below meth c s.heap [] 0 0 (MQ below (s_Qp o) args s 0 0 (fun _ => False)) (F0 m 0 ls []) := by
  obtain ⟨hx, hb, hml, hown, hw, hK, hr, hlocks⟩ := id C0
  unfold V7_told at hO
  refine lv_iload_n hx hb d7_told_0 rfl (lv_at hl 1 rfl) ?_
  by_cases c_1 : x1 = 0
  · refine lv_tableIn (tgt := 44) (off := 43) hx hb d7_told_1 (by rw [c_1]; decide) (by rw [c_1]; decide) (by rw [c_1]; rfl) (by decide) ?_
    refine lv_aload_n hx hb d7_told_44 rfl (lv_at hl 0 rfl) ?_
    refine sr_get (v := .int (S 20 0 0)) hx hb hw hown hK hB 0 (hX 20 (by decide)) cf_20 us7 (by decide) fl_7_100 (rfl) d7_told_45 ?_
    exact se_pi C0 (by rw [if_pos c_1] at hO; exact hO) d7_told_48
  · by_cases c_2 : x1 = 1
    · refine lv_tableIn (tgt := 49) (off := 48) hx hb d7_told_1 (by rw [c_2]; decide) (by rw [c_2]; decide) (by rw [c_2]; rfl) (by decide) ?_
      refine lv_aload_n hx hb d7_told_49 rfl (lv_at hl 0 rfl) ?_
      refine sr_get (v := .int (S 20 0 6)) hx hb hw hown hK hB 6 (hX 20 (by decide)) cf_20 us7 (by decide) fl_7_26 (rfl) d7_told_50 ?_
      exact se_pi C0 (by rw [if_neg c_1, if_pos c_2] at hO; exact hO) d7_told_53
    · by_cases c_3 : x1 = 2
      · refine lv_tableIn (tgt := 54) (off := 53) hx hb d7_told_1 (by rw [c_3]; decide) (by rw [c_3]; decide) (by rw [c_3]; rfl) (by decide) ?_
        refine lv_aload_n hx hb d7_told_54 rfl (lv_at hl 0 rfl) ?_
        refine sr_vp C0 hB (m7_isWatched hX  ) (hX 20 (by decide)) cf_20 ml_7_143 im_7_isWatched se_7_isWatched in_7 cd_7_isWatched hd7_isWatched ⟨⟨rfl, rfl⟩, by decide, by decide⟩ ⟨Nat.zero_le _, Nat.zero_le _⟩ hl.1 rfl (Nat.le_of_ble_eq_true rfl) d7_told_55 ?_
        refine lv_if_eq (tgt := 68) hx hb d7_told_58 (by decide) (fun c_4 => ?_) (fun c_4 => ?_)
        · refine lv_iconst (v := (-1)) hx hb d7_told_68 (by decide) ?_
          exact se_pi C0 (by rw [if_neg c_1, if_neg c_2, if_pos c_3, if_pos c_4] at hO; exact hO) d7_told_69
        · refine lv_aload_n hx hb d7_told_61 rfl (lv_at hl 0 rfl) ?_
          refine sr_get (v := .int (S 20 0 8)) hx hb hw hown hK hB 8 (hX 20 (by decide)) cf_20 us7 (by decide) fl_7_30 (rfl) d7_told_62 ?_
          refine lv_goto (tgt := 69) hx hb d7_told_65 (by decide) ?_
          exact se_pi C0 (by rw [if_neg c_1, if_neg c_2, if_pos c_3, if_neg c_4] at hO; exact hO) d7_told_69
      · by_cases c_5 : x1 = 3
        · refine lv_tableIn (tgt := 70) (off := 69) hx hb d7_told_1 (by rw [c_5]; decide) (by rw [c_5]; decide) (by rw [c_5]; rfl) (by decide) ?_
          refine lv_aload_n hx hb d7_told_70 rfl (lv_at hl 0 rfl) ?_
          refine sr_get (v := .int (S 20 0 27)) hx hb hw hown hK hB 27 (hX 20 (by decide)) cf_20 us7 (by decide) fl_7_81 (rfl) d7_told_71 ?_
          exact se_pi C0 (by rw [if_neg c_1, if_neg c_2, if_neg c_3, if_pos c_5] at hO; exact hO) d7_told_74
        · by_cases c_6 : x1 = 4
          · refine lv_tableIn (tgt := 75) (off := 74) hx hb d7_told_1 (by rw [c_6]; decide) (by rw [c_6]; decide) (by rw [c_6]; rfl) (by decide) ?_
            refine lv_aload_n hx hb d7_told_75 rfl (lv_at hl 0 rfl) ?_
            refine sr_get (v := .int (S 20 0 27)) hx hb hw hown hK hB 27 (hX 20 (by decide)) cf_20 us7 (by decide) fl_7_81 (rfl) d7_told_76 ?_
            refine lv_if_ge (tgt := 86) hx hb d7_told_79 (by decide) (fun c_7 => ?_) (fun c_7 => ?_)
            · refine lv_aload_n hx hb d7_told_86 rfl (lv_at hl 0 rfl) ?_
              refine sr_get (v := .int (S 20 0 28)) hx hb hw hown hK hB 28 (hX 20 (by decide)) cf_20 us7 (by decide) fl_7_153 (rfl) d7_told_87 ?_
              exact se_pi C0 (by rw [if_neg c_1, if_neg c_2, if_neg c_3, if_neg c_5, if_pos c_6, if_pos c_7] at hO; exact hO) d7_told_90
            · refine lv_iconst (v := (-1)) hx hb d7_told_82 (by decide) ?_
              refine lv_goto (tgt := 90) hx hb d7_told_83 (by decide) ?_
              exact se_pi C0 (by rw [if_neg c_1, if_neg c_2, if_neg c_3, if_neg c_5, if_pos c_6, if_neg c_7] at hO; exact hO) d7_told_90
          · by_cases c_8 : x1 = 5
            · refine lv_tableIn (tgt := 91) (off := 90) hx hb d7_told_1 (by rw [c_8]; decide) (by rw [c_8]; decide) (by rw [c_8]; rfl) (by decide) ?_
              refine lv_aload_n hx hb d7_told_91 rfl (lv_at hl 0 rfl) ?_
              refine sr_get (v := .int (S 20 0 27)) hx hb hw hown hK hB 27 (hX 20 (by decide)) cf_20 us7 (by decide) fl_7_81 (rfl) d7_told_92 ?_
              refine lv_if_ge (tgt := 102) hx hb d7_told_95 (by decide) (fun c_9 => ?_) (fun c_9 => ?_)
              · refine lv_aload_n hx hb d7_told_102 rfl (lv_at hl 0 rfl) ?_
                refine sr_get (v := .int (S 20 0 31)) hx hb hw hown hK hB 31 (hX 20 (by decide)) cf_20 us7 (by decide) fl_7_159 (rfl) d7_told_103 ?_
                refine lv_if_eq (tgt := 120) hx hb d7_told_106 (by decide) (fun c_10 => ?_) (fun c_10 => ?_)
                · refine lv_iconst (v := 0) hx hb d7_told_120 (by decide) ?_
                  exact se_pi C0 (by rw [if_neg c_1, if_neg c_2, if_neg c_3, if_neg c_5, if_neg c_6, if_pos c_8, if_pos c_9, if_pos c_10] at hO; exact hO) d7_told_121
                · refine lv_aload_n hx hb d7_told_109 rfl (lv_at hl 0 rfl) ?_
                  refine sr_get (v := .int (S 20 0 32)) hx hb hw hown hK hB 32 (hX 20 (by decide)) cf_20 us7 (by decide) fl_7_163 (rfl) d7_told_110 ?_
                  refine lv_if_ne (tgt := 120) hx hb d7_told_113 (by decide) (fun c_11 => ?_) (fun c_11 => ?_)
                  · refine lv_iconst (v := 0) hx hb d7_told_120 (by decide) ?_
                    exact se_pi C0 (by rw [if_neg c_1, if_neg c_2, if_neg c_3, if_neg c_5, if_neg c_6, if_pos c_8, if_pos c_9, if_neg c_10, if_neg c_11] at hO; exact hO) d7_told_121
                  · refine lv_iconst (v := 1) hx hb d7_told_116 (by decide) ?_
                    refine lv_goto (tgt := 121) hx hb d7_told_117 (by decide) ?_
                    exact se_pi C0 (by rw [if_neg c_1, if_neg c_2, if_neg c_3, if_neg c_5, if_neg c_6, if_pos c_8, if_pos c_9, if_neg c_10, if_pos c_11] at hO; exact hO) d7_told_121
              · refine lv_iconst (v := (-1)) hx hb d7_told_98 (by decide) ?_
                refine lv_goto (tgt := 121) hx hb d7_told_99 (by decide) ?_
                exact se_pi C0 (by rw [if_neg c_1, if_neg c_2, if_neg c_3, if_neg c_5, if_neg c_6, if_pos c_8, if_neg c_9] at hO; exact hO) d7_told_121
            · by_cases c_12 : x1 = 6
              · refine lv_tableIn (tgt := 122) (off := 121) hx hb d7_told_1 (by rw [c_12]; decide) (by rw [c_12]; decide) (by rw [c_12]; rfl) (by decide) ?_
                refine lv_aload_n hx hb d7_told_122 rfl (lv_at hl 0 rfl) ?_
                refine sr_get (v := .int (S 20 0 34)) hx hb hw hown hK hB 34 (hX 20 (by decide)) cf_20 us7 (by decide) fl_7_130 (rfl) d7_told_123 ?_
                exact se_pi C0 (by rw [if_neg c_1, if_neg c_2, if_neg c_3, if_neg c_5, if_neg c_6, if_neg c_8, if_pos c_12] at hO; exact hO) d7_told_126
              · refine lv_tableOut (tgt := 127) hx hb d7_told_1 (tab_out 7 (by decide) (by decide) (fun k hk h => by rcases (show k = 0 ∨ k = 1 ∨ k = 2 ∨ k = 3 ∨ k = 4 ∨ k = 5 ∨ k = 6 by omega) with rfl | rfl | rfl | rfl | rfl | rfl | rfl <;> first | exact c_1 h | exact c_2 h | exact c_3 h | exact c_5 h | exact c_6 h | exact c_8 h | exact c_12 h)) (by decide) ?_
                refine lv_iconst (v := (-1)) hx hb d7_told_127 (by decide) ?_
                exact se_pi C0 (by rw [if_neg c_1, if_neg c_2, if_neg c_3, if_neg c_5, if_neg c_6, if_neg c_8, if_neg c_12] at hO; exact hO) d7_told_128
theorem hd7_told : y7_told.cls = R7 ∧ y7_told.cls ≠ "java/lang/invoke/MethodHandle" ∧ y7_told.cls ≠ "java/lang/invoke/VarHandle" ∧ (parseMethodDescriptor y7_told.desc).map (fun d => d.parameters.length) = some 1 := ⟨rfl, by decide, by decide, by decide +kernel⟩
theorem m7_told {l : Launch} {D : va_G} {aC : Nat → ClassId} {ad : Nat → Nat → Nat} {X : Nat → Nat → Prop} {S A : sS} {G : sG} (hX : xR X) (x1 : Int32)  : Met l y7_told (.code y7_told b7_told 2 (some .int) :: wall) (rmk 1) (s_Pc [.ref (ad 20 0), .int x1] D aC ad X S A G) (s_Qp (V7_told S A G x1)) 0 0 (fun _ => False) :=
  s_met (by decide) rfl (Nat.le_of_ble_eq_true rfl) (fun p e s m args below meth c C0 hB ls hl => k7_told_0 C0 hB hX x1  hl rfl)

def V7_isOpen (S A : sS) (G : sG) (x1 : Int32) : Int32 := if A 45 0 (x1.toNatClampNeg) ≤ S 20 0 0 then 0 else if A 43 0 (x1.toNatClampNeg) ≤ 0 then 0 else if A 46 0 (x1.toNatClampNeg) = 0 then 1 else 0
set_option maxRecDepth 100000 in
set_option maxHeartbeats 4000000 in
theorem k7_isOpen_0 {p : Program} {l : Launch} {e : Env} {s : State} {m : MethodId} {args : Array Value} {below : List Frame} {meth : Method} {c : Code} {D : va_G} {aC : Nat → ClassId} {ad : Nat → Nat → Nat} {X : Nat → Nat → Prop} {S A : sS} {G : sG} (C0 : s_C p s m args meth c b7_isOpen 2 R7 (some .boolean) D aC) (hB : s_B D aC ad X (s_N ad X) S A G s.heap s.heap []) (hX : xR X) (x1 : Int32) (hx1 : 0 ≤ x1.toInt ∧ x1.toInt < 60) {ls : Array Slot} (hl : lv_has ls 2 [(0, .ref (ad 20 0)), (1, .int x1)]) {o : Int32} (hO : V7_isOpen S A G x1 = o) : W p l e (rmk 0) s m args below meth c s.heap [] 0 0 (MQ below (s_Qp o) args s 0 0 (fun _ => False)) (F0 m 0 ls []) := by
  obtain ⟨hx, hb, hml, hown, hw, hK, hr, hlocks⟩ := id C0
  unfold V7_isOpen at hO
  refine lv_aload_n hx hb d7_isOpen_0 rfl (lv_at hl 0 rfl) ?_
  refine sr_get (v := .int (S 20 0 0)) hx hb hw hown hK hB 0 (hX 20 (by decide)) cf_20 us7 (by decide) fl_7_100 (rfl) d7_isOpen_1 ?_
  refine lv_aload_n hx hb d7_isOpen_4 rfl (lv_at hl 0 rfl) ?_
  refine sr_get (v := .ref (ad 45 0)) hx hb hw hown hK hB 24 (hX 20 (by decide)) cf_20 us7 (by decide) fl_7_72 (rfl) d7_isOpen_5 ?_
  refine lv_iload_n hx hb d7_isOpen_8 rfl (lv_at hl 1 rfl) ?_
  refine sr_iald (v := A 45 0 (x1.toNatClampNeg)) hx hb hK hB (hX 45 (by decide)) rfl rfl (by (refine vp_in_iff.mpr ?_); (show 0 ≤ x1.toInt ∧ x1.toInt < ((60 : Nat) : Int));  omega) d7_isOpen_9 (rfl) ?_
  refine lv_icmp_ge (tgt := 35) hx hb d7_isOpen_10 (by decide) (fun c_1 => ?_) (fun c_1 => ?_)
  · refine lv_iconst (v := 0) hx hb d7_isOpen_35 (by decide) ?_
    exact se_pz C0 (Or.inl rfl) (by rw [if_pos c_1] at hO; exact hO) d7_isOpen_36
  · refine lv_aload_n hx hb d7_isOpen_13 rfl (lv_at hl 0 rfl) ?_
    refine sr_get (v := .ref (ad 43 0)) hx hb hw hown hK hB 22 (hX 20 (by decide)) cf_20 us7 (by decide) fl_7_66 (rfl) d7_isOpen_14 ?_
    refine lv_iload_n hx hb d7_isOpen_17 rfl (lv_at hl 1 rfl) ?_
    refine sr_iald (v := A 43 0 (x1.toNatClampNeg)) hx hb hK hB (hX 43 (by decide)) rfl rfl (by (refine vp_in_iff.mpr ?_); (show 0 ≤ x1.toInt ∧ x1.toInt < ((60 : Nat) : Int));  omega) d7_isOpen_18 (rfl) ?_
    refine lv_if_le (tgt := 35) hx hb d7_isOpen_19 (by decide) (fun c_2 => ?_) (fun c_2 => ?_)
    · refine lv_iconst (v := 0) hx hb d7_isOpen_35 (by decide) ?_
      exact se_pz C0 (Or.inl rfl) (by rw [if_neg c_1, if_pos c_2] at hO; exact hO) d7_isOpen_36
    · refine lv_aload_n hx hb d7_isOpen_22 rfl (lv_at hl 0 rfl) ?_
      refine sr_get (v := .ref (ad 46 0)) hx hb hw hown hK hB 25 (hX 20 (by decide)) cf_20 us7 (by decide) fl_7_75 (rfl) d7_isOpen_23 ?_
      refine lv_iload_n hx hb d7_isOpen_26 rfl (lv_at hl 1 rfl) ?_
      refine sr_zald (v := A 46 0 (x1.toNatClampNeg)) hx hb hK hB (hX 46 (by decide)) rfl rfl (by (refine vp_in_iff.mpr ?_); (show 0 ≤ x1.toInt ∧ x1.toInt < ((60 : Nat) : Int));  omega) d7_isOpen_27 (rfl) ?_
      refine lv_if_ne (tgt := 35) hx hb d7_isOpen_28 (by decide) (fun c_3 => ?_) (fun c_3 => ?_)
      · refine lv_iconst (v := 0) hx hb d7_isOpen_35 (by decide) ?_
        exact se_pz C0 (Or.inl rfl) (by rw [if_neg c_1, if_neg c_2, if_neg c_3] at hO; exact hO) d7_isOpen_36
      · refine lv_iconst (v := 1) hx hb d7_isOpen_31 (by decide) ?_
        refine lv_goto (tgt := 36) hx hb d7_isOpen_32 (by decide) ?_
        exact se_pz C0 (Or.inr rfl) (by rw [if_neg c_1, if_neg c_2, if_pos c_3] at hO; exact hO) d7_isOpen_36
theorem z7_isOpen (S A : sS) (G : sG) (x1 : Int32) : V7_isOpen S A G x1 = 0 ∨ V7_isOpen S A G x1 = 1 := by
  unfold V7_isOpen
  (repeat' split) <;> first | exact Or.inl rfl | exact Or.inr rfl
theorem hd7_isOpen : y7_isOpen.cls = R7 ∧ y7_isOpen.cls ≠ "java/lang/invoke/MethodHandle" ∧ y7_isOpen.cls ≠ "java/lang/invoke/VarHandle" ∧ (parseMethodDescriptor y7_isOpen.desc).map (fun d => d.parameters.length) = some 1 := ⟨rfl, by decide, by decide, by decide +kernel⟩
theorem m7_isOpen {l : Launch} {D : va_G} {aC : Nat → ClassId} {ad : Nat → Nat → Nat} {X : Nat → Nat → Prop} {S A : sS} {G : sG} (hX : xR X) (x1 : Int32) (hx1 : 0 ≤ x1.toInt ∧ x1.toInt < 60) : Met l y7_isOpen (.code y7_isOpen b7_isOpen 2 (some .boolean) :: wall) (rmk 0) (s_Pc [.ref (ad 20 0), .int x1] D aC ad X S A G) (s_Qp (V7_isOpen S A G x1)) 0 0 (fun _ => False) :=
  s_met (by decide) rfl (Nat.le_of_ble_eq_true rfl) (fun p e s m args below meth c C0 hB ls hl => k7_isOpen_0 C0 hB hX x1 hx1 hl rfl)

def V7_mayTake (S A : sS) (G : sG) (x1 : Int32) : Int32 := if V7_isOpen S A G x1 = 0 then 0 else if A 47 0 (x1.toNatClampNeg) < 0 then 1 else if (S 20 0 0) - (A 47 0 (x1.toNatClampNeg)) < A 44 0 (x1.toNatClampNeg) then 0 else 1
set_option maxRecDepth 100000 in
set_option maxHeartbeats 4000000 in
theorem k7_mayTake_0 {p : Program} {l : Launch} {e : Env} {s : State} {m : MethodId} {args : Array Value} {below : List Frame} {meth : Method} {c : Code} {D : va_G} {aC : Nat → ClassId} {ad : Nat → Nat → Nat} {X : Nat → Nat → Prop} {S A : sS} {G : sG} (C0 : s_C p s m args meth c b7_mayTake 2 R7 (some .boolean) D aC) (hB : s_B D aC ad X (s_N ad X) S A G s.heap s.heap []) (hX : xR X) (x1 : Int32) (hx1 : 0 ≤ x1.toInt ∧ x1.toInt < 60) {ls : Array Slot} (hl : lv_has ls 2 [(0, .ref (ad 20 0)), (1, .int x1)]) {o : Int32} (hO : V7_mayTake S A G x1 = o) : W p l e (rmk 1) s m args below meth c s.heap [] 0 0 (MQ below (s_Qp o) args s 0 0 (fun _ => False)) (F0 m 0 ls []) := by
  obtain ⟨hx, hb, hml, hown, hw, hK, hr, hlocks⟩ := id C0
  unfold V7_mayTake at hO
  refine lv_aload_n hx hb d7_mayTake_0 rfl (lv_at hl 0 rfl) ?_
  refine lv_iload_n hx hb d7_mayTake_1 rfl (lv_at hl 1 rfl) ?_
  refine sr_vp C0 hB (m7_isOpen hX x1 (by  first | assumption | omega)) (hX 20 (by decide)) cf_20 ml_7_127 im_7_isOpen se_7_isOpen in_7 cd_7_isOpen hd7_isOpen ⟨⟨rfl, rfl⟩, by decide, by decide⟩ ⟨Nat.zero_le _, Nat.zero_le _⟩ hl.1 rfl (Nat.le_of_ble_eq_true rfl) d7_mayTake_2 ?_
  refine lv_if_eq (tgt := 41) hx hb d7_mayTake_5 (by decide) (fun c_1 => ?_) (fun c_1 => ?_)
  · refine lv_iconst (v := 0) hx hb d7_mayTake_41 (by decide) ?_
    exact se_pz C0 (Or.inl rfl) (by rw [if_pos c_1] at hO; exact hO) d7_mayTake_42
  · refine lv_aload_n hx hb d7_mayTake_8 rfl (lv_at hl 0 rfl) ?_
    refine sr_get (v := .ref (ad 47 0)) hx hb hw hown hK hB 26 (hX 20 (by decide)) cf_20 us7 (by decide) fl_7_78 (rfl) d7_mayTake_9 ?_
    refine lv_iload_n hx hb d7_mayTake_12 rfl (lv_at hl 1 rfl) ?_
    refine sr_iald (v := A 47 0 (x1.toNatClampNeg)) hx hb hK hB (hX 47 (by decide)) rfl rfl (by (refine vp_in_iff.mpr ?_); (show 0 ≤ x1.toInt ∧ x1.toInt < ((60 : Nat) : Int));  omega) d7_mayTake_13 (rfl) ?_
    refine lv_if_lt (tgt := 37) hx hb d7_mayTake_14 (by decide) (fun c_2 => ?_) (fun c_2 => ?_)
    · refine lv_iconst (v := 1) hx hb d7_mayTake_37 (by decide) ?_
      refine lv_goto (tgt := 42) hx hb d7_mayTake_38 (by decide) ?_
      exact se_pz C0 (Or.inr rfl) (by rw [if_neg c_1, if_pos c_2] at hO; exact hO) d7_mayTake_42
    · refine lv_aload_n hx hb d7_mayTake_17 rfl (lv_at hl 0 rfl) ?_
      refine sr_get (v := .int (S 20 0 0)) hx hb hw hown hK hB 0 (hX 20 (by decide)) cf_20 us7 (by decide) fl_7_100 (rfl) d7_mayTake_18 ?_
      refine lv_aload_n hx hb d7_mayTake_21 rfl (lv_at hl 0 rfl) ?_
      refine sr_get (v := .ref (ad 47 0)) hx hb hw hown hK hB 26 (hX 20 (by decide)) cf_20 us7 (by decide) fl_7_78 (rfl) d7_mayTake_22 ?_
      refine lv_iload_n hx hb d7_mayTake_25 rfl (lv_at hl 1 rfl) ?_
      refine sr_iald (v := A 47 0 (x1.toNatClampNeg)) hx hb hK hB (hX 47 (by decide)) rfl rfl (by (refine vp_in_iff.mpr ?_); (show 0 ≤ x1.toInt ∧ x1.toInt < ((60 : Nat) : Int));  omega) d7_mayTake_26 (rfl) ?_
      refine lv_isub hx hb d7_mayTake_27 ?_
      refine lv_aload_n hx hb d7_mayTake_28 rfl (lv_at hl 0 rfl) ?_
      refine sr_get (v := .ref (ad 44 0)) hx hb hw hown hK hB 23 (hX 20 (by decide)) cf_20 us7 (by decide) fl_7_69 (rfl) d7_mayTake_29 ?_
      refine lv_iload_n hx hb d7_mayTake_32 rfl (lv_at hl 1 rfl) ?_
      refine sr_iald (v := A 44 0 (x1.toNatClampNeg)) hx hb hK hB (hX 44 (by decide)) rfl rfl (by (refine vp_in_iff.mpr ?_); (show 0 ≤ x1.toInt ∧ x1.toInt < ((60 : Nat) : Int));  omega) d7_mayTake_33 (rfl) ?_
      refine lv_icmp_lt (tgt := 41) hx hb d7_mayTake_34 (by decide) (fun c_3 => ?_) (fun c_3 => ?_)
      · refine lv_iconst (v := 0) hx hb d7_mayTake_41 (by decide) ?_
        exact se_pz C0 (Or.inl rfl) (by rw [if_neg c_1, if_neg c_2, if_pos c_3] at hO; exact hO) d7_mayTake_42
      · refine lv_iconst (v := 1) hx hb d7_mayTake_37 (by decide) ?_
        refine lv_goto (tgt := 42) hx hb d7_mayTake_38 (by decide) ?_
        exact se_pz C0 (Or.inr rfl) (by rw [if_neg c_1, if_neg c_2, if_neg c_3] at hO; exact hO) d7_mayTake_42
theorem z7_mayTake (S A : sS) (G : sG) (x1 : Int32) : V7_mayTake S A G x1 = 0 ∨ V7_mayTake S A G x1 = 1 := by
  unfold V7_mayTake
  (repeat' split) <;> first | exact Or.inl rfl | exact Or.inr rfl | apply z7_isOpen
theorem hd7_mayTake : y7_mayTake.cls = R7 ∧ y7_mayTake.cls ≠ "java/lang/invoke/MethodHandle" ∧ y7_mayTake.cls ≠ "java/lang/invoke/VarHandle" ∧ (parseMethodDescriptor y7_mayTake.desc).map (fun d => d.parameters.length) = some 1 := ⟨rfl, by decide, by decide, by decide +kernel⟩
theorem m7_mayTake {l : Launch} {D : va_G} {aC : Nat → ClassId} {ad : Nat → Nat → Nat} {X : Nat → Nat → Prop} {S A : sS} {G : sG} (hX : xR X) (x1 : Int32) (hx1 : 0 ≤ x1.toInt ∧ x1.toInt < 60) : Met l y7_mayTake (.code y7_mayTake b7_mayTake 2 (some .boolean) :: wall) (rmk 1) (s_Pc [.ref (ad 20 0), .int x1] D aC ad X S A G) (s_Qp (V7_mayTake S A G x1)) 0 0 (fun _ => False) :=
  s_met (by decide) rfl (Nat.le_of_ble_eq_true rfl) (fun p e s m args below meth c C0 hB ls hl => k7_mayTake_0 C0 hB hX x1 hx1 hl rfl)
