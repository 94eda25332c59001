def V6_isUser (S A : sS) (G : sG) (x1 : Int32) : Int32 := if x1 < 0 then 0 else if 16 ≤ x1 then 0 else if G 1 (x1.toNatClampNeg) = none then 0 else 1
set_option maxRecDepth 100000 in
set_option maxHeartbeats 4000000 in
theorem k6_isUser_0 {p : Program} {l : Launch} {e : Env} {s : State} {m : MethodId} {args : Array Value} {below : List Frame} {meth : Method} {c : Code} {D : va_G} {aC : Nat → ClassId} {ad : Nat → Nat → Nat} {X : Nat → Nat → Prop} {S A : sS} {G : sG} (C0 : s_C p s m args meth c b6_isUser 2 R6 (some .boolean) D aC) (hB : s_B D aC ad X (s_N ad X) S A G s.heap s.heap []) (hX : xC X G) (x1 : Int32)  {ls : Array Slot} (hl : lv_has ls 2 [(0, .ref (ad 0 0)), (1, .int x1)]) {o : Int32} (hO : V6_isUser S A G x1 = o) : W p l e (rmk 0) s m args below meth c s.heap [] 0 0 (MQ below (s_Qp o) args s 0 0 (fun _ => False)) (F0 m 0 ls []) := by
  obtain ⟨hx, hb, hml, hown, hw, hK, hr, hlocks⟩ := id C0
  unfold V6_isUser at hO
  refine lv_iload_n hx hb d6_isUser_0 rfl (lv_at hl 1 rfl) ?_
  refine lv_if_lt (tgt := 23) hx hb d6_isUser_1 (by decide) (fun c_1 => ?_) (fun c_1 => ?_)
  · refine lv_iconst (v := 0) hx hb d6_isUser_23 (by decide) ?_
    exact se_pz C0 (Or.inl rfl) (by rw [if_pos c_1] at hO; exact hO) d6_isUser_24
  · refine lv_iload_n hx hb d6_isUser_4 rfl (lv_at hl 1 rfl) ?_
    refine lv_bipush (v := 16) hx hb d6_isUser_5 (by decide) ?_
    refine lv_icmp_ge (tgt := 23) hx hb d6_isUser_7 (by decide) (fun c_2 => ?_) (fun c_2 => ?_)
    · refine lv_iconst (v := 0) hx hb d6_isUser_23 (by decide) ?_
      exact se_pz C0 (Or.inl rfl) (by rw [if_neg c_1, if_pos c_2] at hO; exact hO) d6_isUser_24
    · refine lv_aload_n hx hb d6_isUser_10 rfl (lv_at hl 0 rfl) ?_
      refine sr_get (v := .ref (ad 1 0)) hx hb hw hown hK hB 0 (hX.1 0 (by decide)) cf_0 us6 (by decide) fl_6_11 (rfl) d6_isUser_11 ?_
      refine lv_iload_n hx hb d6_isUser_14 rfl (lv_at hl 1 rfl) ?_
      refine sr_aald (v := G 1 (x1.toNatClampNeg)) hx hb hK hB (hX.1 1 (by decide)) rfl rfl rfl (by (refine vp_in_iff.mpr ?_); (show 0 ≤ x1.toInt ∧ x1.toInt < ((16 : Nat) : Int)); (have kc_1 := nlt_i c_1); (have kc_2 := nle_i c_2); (have l0 : (0 : Int32).toInt = 0 := rfl); (have l16 : (16 : Int32).toInt = 16 := rfl);  omega) d6_isUser_15 rfl ?_
      refine sr_ifnull (tgt := 23) hx hb d6_isUser_16 (by decide) (fun c_3 => ?_) (fun c_3 => ?_)
      · refine lv_iconst (v := 0) hx hb d6_isUser_23 (by decide) ?_
        exact se_pz C0 (Or.inl rfl) (by rw [if_neg c_1, if_neg c_2, if_pos c_3] at hO; exact hO) d6_isUser_24
      · refine lv_iconst (v := 1) hx hb d6_isUser_19 (by decide) ?_
        refine lv_goto (tgt := 24) hx hb d6_isUser_20 (by decide) ?_
        exact se_pz C0 (Or.inr rfl) (by rw [if_neg c_1, if_neg c_2, if_neg c_3] at hO; exact hO) d6_isUser_24
theorem z6_isUser (S A : sS) (G : sG) (x1 : Int32) : V6_isUser S A G x1 = 0 ∨ V6_isUser S A G x1 = 1 := by
  unfold V6_isUser
  (repeat' split) <;> first | exact Or.inl rfl | exact Or.inr rfl
theorem hd6_isUser : y6_isUser.cls = R6 ∧ y6_isUser.cls ≠ "java/lang/invoke/MethodHandle" ∧ y6_isUser.cls ≠ "java/lang/invoke/VarHandle" ∧ (parseMethodDescriptor y6_isUser.desc).map (fun d => d.parameters.length) = some 1 := ⟨rfl, by decide, by decide, by decide +kernel⟩
theorem m6_isUser {l : Launch} {D : va_G} {aC : Nat → ClassId} {ad : Nat → Nat → Nat} {X : Nat → Nat → Prop} {S A : sS} {G : sG} (hX : xC X G) (x1 : Int32)  : Met l y6_isUser (.code y6_isUser b6_isUser 2 (some .boolean) :: wall) (rmk 0) (s_Pc [.ref (ad 0 0), .int x1] D aC ad X S A G) (s_Qp (V6_isUser S A G x1)) 0 0 (fun _ => False) :=
  s_met (by decide) rfl (Nat.le_of_ble_eq_true rfl) (fun p e s m args below meth c C0 hB ls hl => k6_isUser_0 C0 hB hX x1  hl rfl)

def V6_isItem (S A : sS) (G : sG) (x1 : Int32) : Int32 := if x1 < 0 then 0 else if 32 ≤ x1 then 0 else if G 2 (x1.toNatClampNeg) = none then 0 else 1
set_option maxRecDepth 100000 in
set_option maxHeartbeats 4000000 in
theorem k6_isItem_0 {p : Program} {l : Launch} {e : Env} {s : State} {m : MethodId} {args : Array Value} {below : List Frame} {meth : Method} {c : Code} {D : va_G} {aC : Nat → ClassId} {ad : Nat → Nat → Nat} {X : Nat → Nat → Prop} {S A : sS} {G : sG} (C0 : s_C p s m args meth c b6_isItem 2 R6 (some .boolean) D aC) (hB : s_B D aC ad X (s_N ad X) S A G s.heap s.heap []) (hX : xC X G) (x1 : Int32)  {ls : Array Slot} (hl : lv_has ls 2 [(0, .ref (ad 0 0)), (1, .int x1)]) {o : Int32} (hO : V6_isItem S A G x1 = o) : W p l e (rmk 0) s m args below meth c s.heap [] 0 0 (MQ below (s_Qp o) args s 0 0 (fun _ => False)) (F0 m 0 ls []) := by
  obtain ⟨hx, hb, hml, hown, hw, hK, hr, hlocks⟩ := id C0
  unfold V6_isItem at hO
  refine lv_iload_n hx hb d6_isItem_0 rfl (lv_at hl 1 rfl) ?_
  refine lv_if_lt (tgt := 23) hx hb d6_isItem_1 (by decide) (fun c_1 => ?_) (fun c_1 => ?_)
  · refine lv_iconst (v := 0) hx hb d6_isItem_23 (by decide) ?_
    exact se_pz C0 (Or.inl rfl) (by rw [if_pos c_1] at hO; exact hO) d6_isItem_24
  · refine lv_iload_n hx hb d6_isItem_4 rfl (lv_at hl 1 rfl) ?_
    refine lv_bipush (v := 32) hx hb d6_isItem_5 (by decide) ?_
    refine lv_icmp_ge (tgt := 23) hx hb d6_isItem_7 (by decide) (fun c_2 => ?_) (fun c_2 => ?_)
    · refine lv_iconst (v := 0) hx hb d6_isItem_23 (by decide) ?_
      exact se_pz C0 (Or.inl rfl) (by rw [if_neg c_1, if_pos c_2] at hO; exact hO) d6_isItem_24
    · refine lv_aload_n hx hb d6_isItem_10 rfl (lv_at hl 0 rfl) ?_
      refine sr_get (v := .ref (ad 2 0)) hx hb hw hown hK hB 1 (hX.1 0 (by decide)) cf_0 us6 (by decide) fl_6_17 (rfl) d6_isItem_11 ?_
      refine lv_iload_n hx hb d6_isItem_14 rfl (lv_at hl 1 rfl) ?_
      refine sr_aald (v := G 2 (x1.toNatClampNeg)) hx hb hK hB (hX.1 2 (by decide)) rfl rfl rfl (by (refine vp_in_iff.mpr ?_); (show 0 ≤ x1.toInt ∧ x1.toInt < ((32 : Nat) : Int)); (have kc_1 := nlt_i c_1); (have kc_2 := nle_i c_2); (have l0 : (0 : Int32).toInt = 0 := rfl); (have l32 : (32 : Int32).toInt = 32 := rfl);  omega) d6_isItem_15 rfl ?_
      refine sr_ifnull (tgt := 23) hx hb d6_isItem_16 (by decide) (fun c_3 => ?_) (fun c_3 => ?_)
      · refine lv_iconst (v := 0) hx hb d6_isItem_23 (by decide) ?_
        exact se_pz C0 (Or.inl rfl) (by rw [if_neg c_1, if_neg c_2, if_pos c_3] at hO; exact hO) d6_isItem_24
      · refine lv_iconst (v := 1) hx hb d6_isItem_19 (by decide) ?_
        refine lv_goto (tgt := 24) hx hb d6_isItem_20 (by decide) ?_
        exact se_pz C0 (Or.inr rfl) (by rw [if_neg c_1, if_neg c_2, if_neg c_3] at hO; exact hO) d6_isItem_24
theorem z6_isItem (S A : sS) (G : sG) (x1 : Int32) : V6_isItem S A G x1 = 0 ∨ V6_isItem S A G x1 = 1 := by
  unfold V6_isItem
  (repeat' split) <;> first | exact Or.inl rfl | exact Or.inr rfl
theorem hd6_isItem : y6_isItem.cls = R6 ∧ y6_isItem.cls ≠ "java/lang/invoke/MethodHandle" ∧ y6_isItem.cls ≠ "java/lang/invoke/VarHandle" ∧ (parseMethodDescriptor y6_isItem.desc).map (fun d => d.parameters.length) = some 1 := ⟨rfl, by decide, by decide, by decide +kernel⟩
theorem m6_isItem {l : Launch} {D : va_G} {aC : Nat → ClassId} {ad : Nat → Nat → Nat} {X : Nat → Nat → Prop} {S A : sS} {G : sG} (hX : xC X G) (x1 : Int32)  : Met l y6_isItem (.code y6_isItem b6_isItem 2 (some .boolean) :: wall) (rmk 0) (s_Pc [.ref (ad 0 0), .int x1] D aC ad X S A G) (s_Qp (V6_isItem S A G x1)) 0 0 (fun _ => False) :=
  s_met (by decide) rfl (Nat.le_of_ble_eq_true rfl) (fun p e s m args below meth c C0 hB ls hl => k6_isItem_0 C0 hB hX x1  hl rfl)

def V6_isBin (S A : sS) (G : sG) (x1 : Int32) : Int32 := if x1 < 0 then 0 else if 64 ≤ x1 then 0 else 1
set_option maxRecDepth 100000 in
set_option maxHeartbeats 4000000 in
theorem k6_isBin_0 {p : Program} {l : Launch} {e : Env} {s : State} {m : MethodId} {args : Array Value} {below : List Frame} {meth : Method} {c : Code} {D : va_G} {aC : Nat → ClassId} {ad : Nat → Nat → Nat} {X : Nat → Nat → Prop} {S A : sS} {G : sG} (C0 : s_C p s m args meth c b6_isBin 2 R6 (some .boolean) D aC) (hB : s_B D aC ad X (s_N ad X) S A G s.heap s.heap []) (hX : xC X G) (x1 : Int32)  {ls : Array Slot} (hl : lv_has ls 2 [(0, .ref (ad 0 0)), (1, .int x1)]) {o : Int32} (hO : V6_isBin S A G x1 = o) : W p l e (rmk 0) s m args below meth c s.heap [] 0 0 (MQ below (s_Qp o) args s 0 0 (fun _ => False)) (F0 m 0 ls []) := by
  obtain ⟨hx, hb, hml, hown, hw, hK, hr, hlocks⟩ := id C0
  unfold V6_isBin at hO
  refine lv_iload_n hx hb d6_isBin_0 rfl (lv_at hl 1 rfl) ?_
  refine lv_if_lt (tgt := 14) hx hb d6_isBin_1 (by decide) (fun c_1 => ?_) (fun c_1 => ?_)
  · refine lv_iconst (v := 0) hx hb d6_isBin_14 (by decide) ?_
    exact se_pz C0 (Or.inl rfl) (by rw [if_pos c_1] at hO; exact hO) d6_isBin_15
  · refine lv_iload_n hx hb d6_isBin_4 rfl (lv_at hl 1 rfl) ?_
    refine lv_bipush (v := 64) hx hb d6_isBin_5 (by decide) ?_
    refine lv_icmp_ge (tgt := 14) hx hb d6_isBin_7 (by decide) (fun c_2 => ?_) (fun c_2 => ?_)
    · refine lv_iconst (v := 0) hx hb d6_isBin_14 (by decide) ?_
      exact se_pz C0 (Or.inl rfl) (by rw [if_neg c_1, if_pos c_2] at hO; exact hO) d6_isBin_15
    · refine lv_iconst (v := 1) hx hb d6_isBin_10 (by decide) ?_
      refine lv_goto (tgt := 15) hx hb d6_isBin_11 (by decide) ?_
      exact se_pz C0 (Or.inr rfl) (by rw [if_neg c_1, if_neg c_2] at hO; exact hO) d6_isBin_15
theorem z6_isBin (S A : sS) (G : sG) (x1 : Int32) : V6_isBin S A G x1 = 0 ∨ V6_isBin S A G x1 = 1 := by
  unfold V6_isBin
  (repeat' split) <;> first | exact Or.inl rfl | exact Or.inr rfl
theorem hd6_isBin : y6_isBin.cls = R6 ∧ y6_isBin.cls ≠ "java/lang/invoke/MethodHandle" ∧ y6_isBin.cls ≠ "java/lang/invoke/VarHandle" ∧ (parseMethodDescriptor y6_isBin.desc).map (fun d => d.parameters.length) = some 1 := ⟨rfl, by decide, by decide, by decide +kernel⟩
theorem m6_isBin {l : Launch} {D : va_G} {aC : Nat → ClassId} {ad : Nat → Nat → Nat} {X : Nat → Nat → Prop} {S A : sS} {G : sG} (hX : xC X G) (x1 : Int32)  : Met l y6_isBin (.code y6_isBin b6_isBin 2 (some .boolean) :: wall) (rmk 0) (s_Pc [.ref (ad 0 0), .int x1] D aC ad X S A G) (s_Qp (V6_isBin S A G x1)) 0 0 (fun _ => False) :=
  s_met (by decide) rfl (Nat.le_of_ble_eq_true rfl) (fun p e s m args below meth c C0 hB ls hl => k6_isBin_0 C0 hB hX x1  hl rfl)

def V6_isOrder (S A : sS) (G : sG) (x1 : Int32) : Int32 := if x1 < 0 then 0 else if S 0 0 13 ≤ x1 then 0 else 1
set_option maxRecDepth 100000 in
set_option maxHeartbeats 4000000 in
theorem k6_isOrder_0 {p : Program} {l : Launch} {e : Env} {s : State} {m : MethodId} {args : Array Value} {below : List Frame} {meth : Method} {c : Code} {D : va_G} {aC : Nat → ClassId} {ad : Nat → Nat → Nat} {X : Nat → Nat → Prop} {S A : sS} {G : sG} (C0 : s_C p s m args meth c b6_isOrder 2 R6 (some .boolean) D aC) (hB : s_B D aC ad X (s_N ad X) S A G s.heap s.heap []) (hX : xC X G) (x1 : Int32)  {ls : Array Slot} (hl : lv_has ls 2 [(0, .ref (ad 0 0)), (1, .int x1)]) {o : Int32} (hO : V6_isOrder S A G x1 = o) : W p l e (rmk 0) s m args below meth c s.heap [] 0 0 (MQ below (s_Qp o) args s 0 0 (fun _ => False)) (F0 m 0 ls []) := by
  obtain ⟨hx, hb, hml, hown, hw, hK, hr, hlocks⟩ := id C0
  unfold V6_isOrder at hO
  refine lv_iload_n hx hb d6_isOrder_0 rfl (lv_at hl 1 rfl) ?_
  refine lv_if_lt (tgt := 16) hx hb d6_isOrder_1 (by decide) (fun c_1 => ?_) (fun c_1 => ?_)
  · refine lv_iconst (v := 0) hx hb d6_isOrder_16 (by decide) ?_
    exact se_pz C0 (Or.inl rfl) (by rw [if_pos c_1] at hO; exact hO) d6_isOrder_17
  · refine lv_iload_n hx hb d6_isOrder_4 rfl (lv_at hl 1 rfl) ?_
    refine lv_aload_n hx hb d6_isOrder_5 rfl (lv_at hl 0 rfl) ?_
    refine sr_get (v := .int (S 0 0 13)) hx hb hw hown hK hB 13 (hX.1 0 (by decide)) cf_0 us6 (by decide) fl_6_70 (rfl) d6_isOrder_6 ?_
    refine lv_icmp_ge (tgt := 16) hx hb d6_isOrder_9 (by decide) (fun c_2 => ?_) (fun c_2 => ?_)
    · refine lv_iconst (v := 0) hx hb d6_isOrder_16 (by decide) ?_
      exact se_pz C0 (Or.inl rfl) (by rw [if_neg c_1, if_pos c_2] at hO; exact hO) d6_isOrder_17
    · refine lv_iconst (v := 1) hx hb d6_isOrder_12 (by decide) ?_
      refine lv_goto (tgt := 17) hx hb d6_isOrder_13 (by decide) ?_
      exact se_pz C0 (Or.inr rfl) (by rw [if_neg c_1, if_neg c_2] at hO; exact hO) d6_isOrder_17
theorem z6_isOrder (S A : sS) (G : sG) (x1 : Int32) : V6_isOrder S A G x1 = 0 ∨ V6_isOrder S A G x1 = 1 := by
  unfold V6_isOrder
  (repeat' split) <;> first | exact Or.inl rfl | exact Or.inr rfl
theorem hd6_isOrder : y6_isOrder.cls = R6 ∧ y6_isOrder.cls ≠ "java/lang/invoke/MethodHandle" ∧ y6_isOrder.cls ≠ "java/lang/invoke/VarHandle" ∧ (parseMethodDescriptor y6_isOrder.desc).map (fun d => d.parameters.length) = some 1 := ⟨rfl, by decide, by decide, by decide +kernel⟩
theorem m6_isOrder {l : Launch} {D : va_G} {aC : Nat → ClassId} {ad : Nat → Nat → Nat} {X : Nat → Nat → Prop} {S A : sS} {G : sG} (hX : xC X G) (x1 : Int32)  : Met l y6_isOrder (.code y6_isOrder b6_isOrder 2 (some .boolean) :: wall) (rmk 0) (s_Pc [.ref (ad 0 0), .int x1] D aC ad X S A G) (s_Qp (V6_isOrder S A G x1)) 0 0 (fun _ => False) :=
  s_met (by decide) rfl (Nat.le_of_ble_eq_true rfl) (fun p e s m args below meth c C0 hB ls hl => k6_isOrder_0 C0 hB hX x1  hl rfl)

theorem isUser_t {S A : sS} {G : sG} {x : Int32} (h : ¬ V6_isUser S A G x = 0) : (0 ≤ x.toInt ∧ x.toInt < 16) ∧ ¬ G 1 x.toNatClampNeg = none := by
  unfold V6_isUser at h
  have l0 : (0 : Int32).toInt = 0 := rfl
  have l16 : (16 : Int32).toInt = 16 := rfl
  by_cases c1 : x < 0
  · exact absurd (if_pos c1) h
  · rw [if_neg c1] at h
    by_cases c2 : 16 ≤ x
    · exact absurd (if_pos c2) h
    · rw [if_neg c2] at h
      by_cases c3 : G 1 (x.toNatClampNeg) = none
      · exact absurd (if_pos c3) h
      · exact ⟨⟨by have := nlt_i c1; omega, by have := nle_i c2; omega⟩, c3⟩
theorem isItem_t {S A : sS} {G : sG} {x : Int32} (h : ¬ V6_isItem S A G x = 0) : (0 ≤ x.toInt ∧ x.toInt < 32) ∧ ¬ G 2 x.toNatClampNeg = none := by
  unfold V6_isItem at h
  have l0 : (0 : Int32).toInt = 0 := rfl
  have l32 : (32 : Int32).toInt = 32 := rfl
  by_cases c1 : x < 0
  · exact absurd (if_pos c1) h
  · rw [if_neg c1] at h
    by_cases c2 : 32 ≤ x
    · exact absurd (if_pos c2) h
    · rw [if_neg c2] at h
      by_cases c3 : G 2 (x.toNatClampNeg) = none
      · exact absurd (if_pos c3) h
      · exact ⟨⟨by have := nlt_i c1; omega, by have := nle_i c2; omega⟩, c3⟩
theorem isBin_t {S A : sS} {G : sG} {x : Int32} (h : ¬ V6_isBin S A G x = 0) : 0 ≤ x.toInt ∧ x.toInt < 64 := by
  unfold V6_isBin at h
  have l0 : (0 : Int32).toInt = 0 := rfl
  have l64 : (64 : Int32).toInt = 64 := rfl
  by_cases c1 : x < 0
  · exact absurd (if_pos c1) h
  · rw [if_neg c1] at h
    by_cases c2 : 64 ≤ x
    · exact absurd (if_pos c2) h
    · exact ⟨by have := nlt_i c1; omega, by have := nle_i c2; omega⟩
theorem isOrder_t {S A : sS} {G : sG} {x : Int32} (h : ¬ V6_isOrder S A G x = 0) : 0 ≤ x.toInt ∧ x.toInt < (S 0 0 13).toInt := by
  unfold V6_isOrder at h
  have l0 : (0 : Int32).toInt = 0 := rfl
  by_cases c1 : x < 0
  · exact absurd (if_pos c1) h
  · rw [if_neg c1] at h
    by_cases c2 : S 0 0 13 ≤ x
    · exact absurd (if_pos c2) h
    · exact ⟨by have := nlt_i c1; omega, by have := nle_i c2; omega⟩

def V6_isControlled (S A : sS) (G : sG) (x1 : Int32) : Int32 := if V6_isItem S A G x1 = 0 then 0 else if S 13 (x1.toNatClampNeg) 0 = 0 then 0 else 1
set_option maxRecDepth 100000 in
set_option maxHeartbeats 4000000 in
theorem k6_isControlled_0 {p : Program} {l : Launch} {e : Env} {s : State} {m : MethodId} {args : Array Value} {below : List Frame} {meth : Method} {c : Code} {D : va_G} {aC : Nat → ClassId} {ad : Nat → Nat → Nat} {X : Nat → Nat → Prop} {S A : sS} {G : sG} (C0 : s_C p s m args meth c b6_isControlled 2 R6 (some .boolean) D aC) (hB : s_B D aC ad X (s_N ad X) S A G s.heap s.heap []) (hX : xC X G) (x1 : Int32)  {ls : Array Slot} (hl : lv_has ls 2 [(0, .ref (ad 0 0)), (1, .int x1)]) {o : Int32} (hO : V6_isControlled S A G x1 = o) : W p l e (rmk 1) s m args below meth c s.heap [] 0 0 (MQ below (s_Qp o) args s 0 0 (fun _ => False)) (F0 m 0 ls []) := by
  obtain ⟨hx, hb, hml, hown, hw, hK, hr, hlocks⟩ := id C0
  unfold V6_isControlled at hO
  refine lv_aload_n hx hb d6_isControlled_0 rfl (lv_at hl 0 rfl) ?_
  refine lv_iload_n hx hb d6_isControlled_1 rfl (lv_at hl 1 rfl) ?_
  refine sr_vp C0 hB (m6_isItem hX x1 ) (hX.1 0 (by decide)) cf_0 ml_6_101 im_6_isItem se_6_isItem in_6 cd_6_isItem hd6_isItem ⟨⟨rfl, rfl⟩, by decide, by decide⟩ ⟨Nat.zero_le _, Nat.zero_le _⟩ hl.1 rfl (Nat.le_of_ble_eq_true rfl) d6_isControlled_2 ?_
  refine lv_if_eq (tgt := 24) hx hb d6_isControlled_5 (by decide) (fun c_1 => ?_) (fun c_1 => ?_)
  · refine lv_iconst (v := 0) hx hb d6_isControlled_24 (by decide) ?_
    exact se_pz C0 (Or.inl rfl) (by rw [if_pos c_1] at hO; exact hO) d6_isControlled_25
  · refine lv_aload_n hx hb d6_isControlled_8 rfl (lv_at hl 0 rfl) ?_
    refine sr_get (v := .ref (ad 2 0)) hx hb hw hown hK hB 1 (hX.1 0 (by decide)) cf_0 us6 (by decide) fl_6_17 (rfl) d6_isControlled_9 ?_
    refine lv_iload_n hx hb d6_isControlled_12 rfl (lv_at hl 1 rfl) ?_
    refine sr_aald (v := some (x1.toNatClampNeg)) hx hb hK hB (hX.1 2 (by decide)) rfl rfl rfl (by (refine vp_in_iff.mpr ?_); (show 0 ≤ x1.toInt ∧ x1.toInt < ((32 : Nat) : Int)); (have kc_1 := (isItem_t c_1).1);  omega) d6_isControlled_13 (by exact (gi hX (i := x1.toNatClampNeg) ((isItem_t c_1).2)).1) ?_
    refine sr_get (v := .int (S 13 (x1.toNatClampNeg) 0)) hx hb hw hown hK hB 0 (gi hX (i := x1.toNatClampNeg) ((isItem_t c_1).2)).2 cf_13 us1 (by decide) fl_6_272 (rfl) d6_isControlled_14 ?_
    refine lv_if_eq (tgt := 24) hx hb d6_isControlled_17 (by decide) (fun c_2 => ?_) (fun c_2 => ?_)
    · refine lv_iconst (v := 0) hx hb d6_isControlled_24 (by decide) ?_
      exact se_pz C0 (Or.inl rfl) (by rw [if_neg c_1, if_pos c_2] at hO; exact hO) d6_isControlled_25
    · refine lv_iconst (v := 1) hx hb d6_isControlled_20 (by decide) ?_
      refine lv_goto (tgt := 25) hx hb d6_isControlled_21 (by decide) ?_
      exact se_pz C0 (Or.inr rfl) (by rw [if_neg c_1, if_neg c_2] at hO; exact hO) d6_isControlled_25
theorem z6_isControlled (S A : sS) (G : sG) (x1 : Int32) : V6_isControlled S A G x1 = 0 ∨ V6_isControlled S A G x1 = 1 := by
  unfold V6_isControlled
  (repeat' split) <;> first | exact Or.inl rfl | exact Or.inr rfl | apply z6_isItem
theorem hd6_isControlled : y6_isControlled.cls = R6 ∧ y6_isControlled.cls ≠ "java/lang/invoke/MethodHandle" ∧ y6_isControlled.cls ≠ "java/lang/invoke/VarHandle" ∧ (parseMethodDescriptor y6_isControlled.desc).map (fun d => d.parameters.length) = some 1 := ⟨rfl, by decide, by decide, by decide +kernel⟩
theorem m6_isControlled {l : Launch} {D : va_G} {aC : Nat → ClassId} {ad : Nat → Nat → Nat} {X : Nat → Nat → Prop} {S A : sS} {G : sG} (hX : xC X G) (x1 : Int32)  : Met l y6_isControlled (.code y6_isControlled b6_isControlled 2 (some .boolean) :: wall) (rmk 1) (s_Pc [.ref (ad 0 0), .int x1] D aC ad X S A G) (s_Qp (V6_isControlled S A G x1)) 0 0 (fun _ => False) :=
  s_met (by decide) rfl (Nat.le_of_ble_eq_true rfl) (fun p e s m args below meth c C0 hB ls hl => k6_isControlled_0 C0 hB hX x1  hl rfl)

def V6_isPharmacistIn (S A : sS) (G : sG)  : Int32 := if V6_isUser S A G (S 0 0 9) = 0 then 0 else if S 12 ((S 0 0 9).toNatClampNeg) 0 = 1 then 1 else 0
set_option maxRecDepth 100000 in
set_option maxHeartbeats 4000000 in
theorem k6_isPharmacistIn_0 {p : Program} {l : Launch} {e : Env} {s : State} {m : MethodId} {args : Array Value} {below : List Frame} {meth : Method} {c : Code} {D : va_G} {aC : Nat → ClassId} {ad : Nat → Nat → Nat} {X : Nat → Nat → Prop} {S A : sS} {G : sG} (C0 : s_C p s m args meth c b6_isPharmacistIn 1 R6 (some .boolean) D aC) (hB : s_B D aC ad X (s_N ad X) S A G s.heap s.heap []) (hX : xC X G)   {ls : Array Slot} (hl : lv_has ls 1 [(0, .ref (ad 0 0))]) {o : Int32} (hO : V6_isPharmacistIn S A G  = o) : W p l e (rmk 1) s m args below meth c s.heap [] 0 0 (MQ below (s_Qp o) args s 0 0 (fun _ => False)) (F0 m 0 ls []) := by
  obtain ⟨hx, hb, hml, hown, hw, hK, hr, hlocks⟩ := id C0
  unfold V6_isPharmacistIn at hO
  refine lv_aload_n hx hb d6_isPharmacistIn_0 rfl (lv_at hl 0 rfl) ?_
  refine lv_aload_n hx hb d6_isPharmacistIn_1 rfl (lv_at hl 0 rfl) ?_
  refine sr_get (v := .int (S 0 0 9)) hx hb hw hown hK hB 9 (hX.1 0 (by decide)) cf_0 us6 (by decide) fl_6_58 (rfl) d6_isPharmacistIn_2 ?_
  refine sr_vp C0 hB (m6_isUser hX (S 0 0 9) ) (hX.1 0 (by decide)) cf_0 ml_6_83 im_6_isUser se_6_isUser in_6 cd_6_isUser hd6_isUser ⟨⟨rfl, rfl⟩, by decide, by decide⟩ ⟨Nat.zero_le _, Nat.zero_le _⟩ hl.1 rfl (Nat.le_of_ble_eq_true rfl) d6_isPharmacistIn_5 ?_
  refine lv_if_eq (tgt := 31) hx hb d6_isPharmacistIn_8 (by decide) (fun c_1 => ?_) (fun c_1 => ?_)
  · refine lv_iconst (v := 0) hx hb d6_isPharmacistIn_31 (by decide) ?_
    exact se_pz C0 (Or.inl rfl) (by rw [if_pos c_1] at hO; exact hO) d6_isPharmacistIn_32
  · refine lv_aload_n hx hb d6_isPharmacistIn_11 rfl (lv_at hl 0 rfl) ?_
    refine sr_get (v := .ref (ad 1 0)) hx hb hw hown hK hB 0 (hX.1 0 (by decide)) cf_0 us6 (by decide) fl_6_11 (rfl) d6_isPharmacistIn_12 ?_
    refine lv_aload_n hx hb d6_isPharmacistIn_15 rfl (lv_at hl 0 rfl) ?_
    refine sr_get (v := .int (S 0 0 9)) hx hb hw hown hK hB 9 (hX.1 0 (by decide)) cf_0 us6 (by decide) fl_6_58 (rfl) d6_isPharmacistIn_16 ?_
    refine sr_aald (v := some ((S 0 0 9).toNatClampNeg)) hx hb hK hB (hX.1 1 (by decide)) rfl rfl rfl (by (refine vp_in_iff.mpr ?_); (show 0 ≤ (S 0 0 9).toInt ∧ (S 0 0 9).toInt < ((16 : Nat) : Int)); (have kc_1 := (isUser_t c_1).1); (have l0 : (0 : Int32).toInt = 0 := rfl); (have l9 : (9 : Int32).toInt = 9 := rfl);  omega) d6_isPharmacistIn_19 (by exact (gu hX (i := (S 0 0 9).toNatClampNeg) ((isUser_t c_1).2)).1) ?_
    refine sr_get (v := .int (S 12 ((S 0 0 9).toNatClampNeg) 0)) hx hb hw hown hK hB 0 (gu hX (i := (S 0 0 9).toNatClampNeg) ((isUser_t c_1).2)).2 cf_12 us5 (by decide) fl_6_275 (rfl) d6_isPharmacistIn_20 ?_
    refine lv_iconst (v := 1) hx hb d6_isPharmacistIn_23 (by decide) ?_
    refine lv_icmp_ne (tgt := 31) hx hb d6_isPharmacistIn_24 (by decide) (fun c_2 => ?_) (fun c_2 => ?_)
    · refine lv_iconst (v := 0) hx hb d6_isPharmacistIn_31 (by decide) ?_
      exact se_pz C0 (Or.inl rfl) (by rw [if_neg c_1, if_neg c_2] at hO; exact hO) d6_isPharmacistIn_32
    · refine lv_iconst (v := 1) hx hb d6_isPharmacistIn_27 (by decide) ?_
      refine lv_goto (tgt := 32) hx hb d6_isPharmacistIn_28 (by decide) ?_
      exact se_pz C0 (Or.inr rfl) (by rw [if_neg c_1, if_pos c_2] at hO; exact hO) d6_isPharmacistIn_32
theorem z6_isPharmacistIn (S A : sS) (G : sG)  : V6_isPharmacistIn S A G  = 0 ∨ V6_isPharmacistIn S A G  = 1 := by
  unfold V6_isPharmacistIn
  (repeat' split) <;> first | exact Or.inl rfl | exact Or.inr rfl | apply z6_isUser
theorem hd6_isPharmacistIn : y6_isPharmacistIn.cls = R6 ∧ y6_isPharmacistIn.cls ≠ "java/lang/invoke/MethodHandle" ∧ y6_isPharmacistIn.cls ≠ "java/lang/invoke/VarHandle" ∧ (parseMethodDescriptor y6_isPharmacistIn.desc).map (fun d => d.parameters.length) = some 0 := ⟨rfl, by decide, by decide, by decide +kernel⟩
theorem m6_isPharmacistIn {l : Launch} {D : va_G} {aC : Nat → ClassId} {ad : Nat → Nat → Nat} {X : Nat → Nat → Prop} {S A : sS} {G : sG} (hX : xC X G)   : Met l y6_isPharmacistIn (.code y6_isPharmacistIn b6_isPharmacistIn 1 (some .boolean) :: wall) (rmk 1) (s_Pc [.ref (ad 0 0)] D aC ad X S A G) (s_Qp (V6_isPharmacistIn S A G )) 0 0 (fun _ => False) :=
  s_met (by decide) rfl (Nat.le_of_ble_eq_true rfl) (fun p e s m args below meth c C0 hB ls hl => k6_isPharmacistIn_0 C0 hB hX   hl rfl)

def V6_isHandlerIn (S A : sS) (G : sG)  : Int32 := if V6_isPharmacistIn S A G  = 0 then if V6_isUser S A G (S 0 0 9) = 0 then 0 else if S 12 ((S 0 0 9).toNatClampNeg) 0 = 0 then 1 else 0 else 1
set_option maxRecDepth 100000 in
set_option maxHeartbeats 4000000 in
theorem k6_isHandlerIn_0 {p : Program} {l : Launch} {e : Env} {s : State} {m : MethodId} {args : Array Value} {below : List Frame} {meth : Method} {c : Code} {D : va_G} {aC : Nat → ClassId} {ad : Nat → Nat → Nat} {X : Nat → Nat → Prop} {S A : sS} {G : sG} (C0 : s_C p s m args meth c b6_isHandlerIn 1 R6 (some .boolean) D aC) (hB : s_B D aC ad X (s_N ad X) S A G s.heap s.heap []) (hX : xC X G)   {ls : Array Slot} (hl : lv_has ls 1 [(0, .ref (ad 0 0))]) {o : Int32} (hO : V6_isHandlerIn S A G  = o) : W p l e (rmk 2) s m args below meth c s.heap [] 0 0 (MQ below (s_Qp o) args s 0 0 (fun _ => False)) (F0 m 0 ls []) := by
  obtain ⟨hx, hb, hml, hown, hw, hK, hr, hlocks⟩ := id C0
  unfold V6_isHandlerIn at hO
  refine lv_aload_n hx hb d6_isHandlerIn_0 rfl (lv_at hl 0 rfl) ?_
  refine sr_vp C0 hB (m6_isPharmacistIn hX  ) (hX.1 0 (by decide)) cf_0 ml_6_105 im_6_isPharmacistIn se_6_isPharmacistIn in_6 cd_6_isPharmacistIn hd6_isPharmacistIn ⟨⟨rfl, rfl⟩, by decide, by decide⟩ ⟨Nat.zero_le _, Nat.zero_le _⟩ hl.1 rfl (Nat.le_of_ble_eq_true rfl) d6_isHandlerIn_1 ?_
  refine lv_if_ne (tgt := 33) hx hb d6_isHandlerIn_4 (by decide) (fun c_1 => ?_) (fun c_1 => ?_)
  · refine lv_iconst (v := 1) hx hb d6_isHandlerIn_33 (by decide) ?_
    refine lv_goto (tgt := 38) hx hb d6_isHandlerIn_34 (by decide) ?_
    exact se_pz C0 (Or.inr rfl) (by rw [if_neg c_1] at hO; exact hO) d6_isHandlerIn_38
  · refine lv_aload_n hx hb d6_isHandlerIn_7 rfl (lv_at hl 0 rfl) ?_
    refine lv_aload_n hx hb d6_isHandlerIn_8 rfl (lv_at hl 0 rfl) ?_
    refine sr_get (v := .int (S 0 0 9)) hx hb hw hown hK hB 9 (hX.1 0 (by decide)) cf_0 us6 (by decide) fl_6_58 (rfl) d6_isHandlerIn_9 ?_
    refine sr_vp C0 hB (m6_isUser hX (S 0 0 9) ) (hX.1 0 (by decide)) cf_0 ml_6_83 im_6_isUser se_6_isUser in_6 cd_6_isUser hd6_isUser ⟨⟨rfl, rfl⟩, by decide, by decide⟩ ⟨Nat.zero_le _, Nat.zero_le _⟩ hl.1 rfl (Nat.le_of_ble_eq_true rfl) d6_isHandlerIn_12 ?_
    refine lv_if_eq (tgt := 37) hx hb d6_isHandlerIn_15 (by decide) (fun c_2 => ?_) (fun c_2 => ?_)
    · refine lv_iconst (v := 0) hx hb d6_isHandlerIn_37 (by decide) ?_
      exact se_pz C0 (Or.inl rfl) (by rw [if_pos c_1, if_pos c_2] at hO; exact hO) d6_isHandlerIn_38
    · refine lv_aload_n hx hb d6_isHandlerIn_18 rfl (lv_at hl 0 rfl) ?_
      refine sr_get (v := .ref (ad 1 0)) hx hb hw hown hK hB 0 (hX.1 0 (by decide)) cf_0 us6 (by decide) fl_6_11 (rfl) d6_isHandlerIn_19 ?_
      refine lv_aload_n hx hb d6_isHandlerIn_22 rfl (lv_at hl 0 rfl) ?_
      refine sr_get (v := .int (S 0 0 9)) hx hb hw hown hK hB 9 (hX.1 0 (by decide)) cf_0 us6 (by decide) fl_6_58 (rfl) d6_isHandlerIn_23 ?_
      refine sr_aald (v := some ((S 0 0 9).toNatClampNeg)) hx hb hK hB (hX.1 1 (by decide)) rfl rfl rfl (by (refine vp_in_iff.mpr ?_); (show 0 ≤ (S 0 0 9).toInt ∧ (S 0 0 9).toInt < ((16 : Nat) : Int)); (have kc_2 := (isUser_t c_2).1); (have l0 : (0 : Int32).toInt = 0 := rfl); (have l9 : (9 : Int32).toInt = 9 := rfl);  omega) d6_isHandlerIn_26 (by exact (gu hX (i := (S 0 0 9).toNatClampNeg) ((isUser_t c_2).2)).1) ?_
      refine sr_get (v := .int (S 12 ((S 0 0 9).toNatClampNeg) 0)) hx hb hw hown hK hB 0 (gu hX (i := (S 0 0 9).toNatClampNeg) ((isUser_t c_2).2)).2 cf_12 us5 (by decide) fl_6_275 (rfl) d6_isHandlerIn_27 ?_
      refine lv_if_ne (tgt := 37) hx hb d6_isHandlerIn_30 (by decide) (fun c_3 => ?_) (fun c_3 => ?_)
      · refine lv_iconst (v := 0) hx hb d6_isHandlerIn_37 (by decide) ?_
        exact se_pz C0 (Or.inl rfl) (by rw [if_pos c_1, if_neg c_2, if_neg c_3] at hO; exact hO) d6_isHandlerIn_38
      · refine lv_iconst (v := 1) hx hb d6_isHandlerIn_33 (by decide) ?_
        refine lv_goto (tgt := 38) hx hb d6_isHandlerIn_34 (by decide) ?_
        exact se_pz C0 (Or.inr rfl) (by rw [if_pos c_1, if_neg c_2, if_pos c_3] at hO; exact hO) d6_isHandlerIn_38
theorem z6_isHandlerIn (S A : sS) (G : sG)  : V6_isHandlerIn S A G  = 0 ∨ V6_isHandlerIn S A G  = 1 := by
  unfold V6_isHandlerIn
  (repeat' split) <;> first | exact Or.inl rfl | exact Or.inr rfl | apply z6_isPharmacistIn | apply z6_isUser
theorem hd6_isHandlerIn : y6_isHandlerIn.cls = R6 ∧ y6_isHandlerIn.cls ≠ "java/lang/invoke/MethodHandle" ∧ y6_isHandlerIn.cls ≠ "java/lang/invoke/VarHandle" ∧ (parseMethodDescriptor y6_isHandlerIn.desc).map (fun d => d.parameters.length) = some 0 := ⟨rfl, by decide, by decide, by decide +kernel⟩
theorem m6_isHandlerIn {l : Launch} {D : va_G} {aC : Nat → ClassId} {ad : Nat → Nat → Nat} {X : Nat → Nat → Prop} {S A : sS} {G : sG} (hX : xC X G)   : Met l y6_isHandlerIn (.code y6_isHandlerIn b6_isHandlerIn 1 (some .boolean) :: wall) (rmk 2) (s_Pc [.ref (ad 0 0)] D aC ad X S A G) (s_Qp (V6_isHandlerIn S A G )) 0 0 (fun _ => False) :=
  s_met (by decide) rfl (Nat.le_of_ble_eq_true rfl) (fun p e s m args below meth c C0 hB ls hl => k6_isHandlerIn_0 C0 hB hX   hl rfl)

def O6_tryCode (S A : sS) (G : sG) (u : Nat) (x2 : Int32) : Int32 × sS × sS := if V5_isLocked S A G u (S 0 0 8) = 0 then if x2 = S 12 u 1 then (0, (up3 S 12 u 2 0), A) else if (S 12 u 2) + 1 < 3 then ((-9), (up3 S 12 u 2 ((S 12 u 2) + 1)), A) else ((-9), (up3 (up3 (up3 S 12 u 2 ((S 12 u 2) + 1)) 12 u 2 0) 12 u 3 ((S 0 0 8) + 300)), A) else ((-10), S, A)
set_option maxRecDepth 100000 in
set_option maxHeartbeats 4000000 in
theorem k6_tryCode_0 {p : Program} {l : Launch} {e : Env} {s : State} {m : MethodId} {args : Array Value} {below : List Frame} {meth : Method} {c : Code} {D : va_G} {aC : Nat → ClassId} {ad : Nat → Nat → Nat} {X : Nat → Nat → Prop} {S A : sS} {G : sG} {H : Heap} {locs : List Loc} (C0 : s_C p s m args meth c b6_tryCode 3 R6 (some .int) D aC) (hB : s_B D aC ad X (s_N ad X) S A G s.heap H locs) (hX : xC X G) (u : Nat) (x2 : Int32) (hu : X 12 u) {ls : Array Slot} (hl : lv_has ls 3 [(0, .ref (ad 0 0)), (1, .ref (ad 12 u)), (2, .int x2)]) {o : Int32 × sS × sS} (hO : O6_tryCode S A G u x2 = o) : W p l e (rmk 1) s m args below meth c H locs 0 0 (MQ below (s_Qi D aC ad X G o) args s 0 0 (s_N ad X)) (F0 m 0 ls []) := by
  obtain ⟨hx, hb, hml, hown, hw, hK, hr, hlocks⟩ := id C0
  unfold O6_tryCode at hO
  refine lv_aload_n hx hb d6_tryCode_0 rfl (lv_at hl 1 rfl) ?_
  refine lv_aload_n hx hb d6_tryCode_1 rfl (lv_at hl 0 rfl) ?_
  refine sr_get (v := .int (S 0 0 8)) hx hb hw hown hK hB 8 (hX.1 0 (by decide)) cf_0 us6 (by decide) fl_6_54 (rfl) d6_tryCode_2 ?_
  refine sr_vp C0 hB (m5_isLocked hX u (S 0 0 8) hu) hu cf_12 ml_6_278 im_5_isLocked se_5_isLocked in_5 cd_5_isLocked hd5_isLocked ⟨⟨rfl, rfl⟩, by decide, by decide⟩ ⟨Nat.zero_le _, Nat.zero_le _⟩ hl.1 rfl (Nat.le_of_ble_eq_true rfl) d6_tryCode_5 ?_
  refine lv_if_eq (tgt := 14) hx hb d6_tryCode_8 (by decide) (fun c_1 => ?_) (fun c_1 => ?_)
  · refine lv_iload_n hx hb d6_tryCode_14 rfl (lv_at hl 2 rfl) ?_
    refine lv_aload_n hx hb d6_tryCode_15 rfl (lv_at hl 1 rfl) ?_
    refine sr_get (v := .int (S 12 u 1)) hx hb hw hown hK hB 1 hu cf_12 us5 (by decide) fl_6_281 (rfl) d6_tryCode_16 ?_
    refine lv_icmp_ne (tgt := 29) hx hb d6_tryCode_19 (by decide) (fun c_2 => ?_) (fun c_2 => ?_)
    · refine lv_aload_n hx hb d6_tryCode_29 rfl (lv_at hl 1 rfl) ?_
      refine lv_dup hx hb d6_tryCode_30 rfl ?_
      refine sr_get (v := .int (S 12 u 2)) hx hb hw hown hK hB 2 hu cf_12 us5 (by decide) fl_6_284 (rfl) d6_tryCode_31 ?_
      refine lv_iconst (v := 1) hx hb d6_tryCode_34 (by decide) ?_
      refine lv_iadd hx hb d6_tryCode_35 ?_
      refine sr_put hx hb hw hown hK hB 2 hu cf_12 us5 tk5 nm5 (by decide) fl_6_284 rfl rfl rfl rfl d6_tryCode_36 (fun H locs hB => ?_)
      refine lv_aload_n hx hb d6_tryCode_39 rfl (lv_at hl 1 rfl) ?_
      refine sr_get (v := .int ((S 12 u 2) + 1)) hx hb hw hown hK hB 2 hu cf_12 us5 (by decide) fl_6_284 (congrArg Value.int (up3_s)) d6_tryCode_40 ?_
      refine lv_iconst (v := 3) hx hb d6_tryCode_43 (by decide) ?_
      refine lv_icmp_lt (tgt := 64) hx hb d6_tryCode_44 (by decide) (fun c_3 => ?_) (fun c_3 => ?_)
      · refine lv_bipush (v := (-9)) hx hb d6_tryCode_64 (by decide) ?_
        exact se_i C0 hB (by rw [if_pos c_1, if_neg c_2, if_pos c_3] at hO; exact hO) d6_tryCode_66
      · refine lv_aload_n hx hb d6_tryCode_47 rfl (lv_at hl 1 rfl) ?_
        refine lv_iconst (v := 0) hx hb d6_tryCode_48 (by decide) ?_
        refine sr_put hx hb hw hown hK hB 2 hu cf_12 us5 tk5 nm5 (by decide) fl_6_284 rfl rfl rfl rfl d6_tryCode_49 (fun H locs hB => ?_)
        refine lv_aload_n hx hb d6_tryCode_52 rfl (lv_at hl 1 rfl) ?_
        refine lv_aload_n hx hb d6_tryCode_53 rfl (lv_at hl 0 rfl) ?_
        refine sr_get (v := .int (S 0 0 8)) hx hb hw hown hK hB 8 (hX.1 0 (by decide)) cf_0 us6 (by decide) fl_6_54 (rfl) d6_tryCode_54 ?_
        refine lv_sipush (v := 300) hx hb d6_tryCode_57 (by decide) ?_
        refine lv_iadd hx hb d6_tryCode_60 ?_
        refine sr_put hx hb hw hown hK hB 3 hu cf_12 us5 tk5 nm5 (by decide) fl_6_287 rfl rfl rfl rfl d6_tryCode_61 (fun H locs hB => ?_)
        refine lv_bipush (v := (-9)) hx hb d6_tryCode_64 (by decide) ?_
        exact se_i C0 hB (by rw [if_pos c_1, if_neg c_2, if_neg c_3] at hO; exact hO) d6_tryCode_66
    · refine lv_aload_n hx hb d6_tryCode_22 rfl (lv_at hl 1 rfl) ?_
      refine lv_iconst (v := 0) hx hb d6_tryCode_23 (by decide) ?_
      refine sr_put hx hb hw hown hK hB 2 hu cf_12 us5 tk5 nm5 (by decide) fl_6_284 rfl rfl rfl rfl d6_tryCode_24 (fun H locs hB => ?_)
      refine lv_iconst (v := 0) hx hb d6_tryCode_27 (by decide) ?_
      exact se_i C0 hB (by rw [if_pos c_1, if_pos c_2] at hO; exact hO) d6_tryCode_28
  · refine lv_bipush (v := (-10)) hx hb d6_tryCode_11 (by decide) ?_
    exact se_i C0 hB (by rw [if_neg c_1] at hO; exact hO) d6_tryCode_13
theorem hd6_tryCode : y6_tryCode.cls = R6 ∧ y6_tryCode.cls ≠ "java/lang/invoke/MethodHandle" ∧ y6_tryCode.cls ≠ "java/lang/invoke/VarHandle" ∧ (parseMethodDescriptor y6_tryCode.desc).map (fun d => d.parameters.length) = some 2 := ⟨rfl, by decide, by decide, by decide +kernel⟩
theorem m6_tryCode {l : Launch} {D : va_G} {aC : Nat → ClassId} {ad : Nat → Nat → Nat} {X : Nat → Nat → Prop} {S A : sS} {G : sG} (hX : xC X G) (u : Nat) (x2 : Int32) (hu : X 12 u) : Met l y6_tryCode (.code y6_tryCode b6_tryCode 3 (some .int) :: wall) (rmk 1) (s_Pc [.ref (ad 0 0), .ref (ad 12 u), .int x2] D aC ad X S A G) (s_Qi D aC ad X G (O6_tryCode S A G u x2)) 0 0 (s_N ad X) :=
  s_met (by decide) rfl (Nat.le_of_ble_eq_true rfl) (fun p e s m args below meth c C0 hB ls hl => k6_tryCode_0 C0 hB hX u x2 hu hl rfl)

def O6_accept (S A : sS) (G : sG)  : sS × sS := ((up3 S 0 0 10 (S 0 0 8)), A)
set_option maxRecDepth 100000 in
set_option maxHeartbeats 4000000 in
theorem k6_accept_0 {p : Program} {l : Launch} {e : Env} {s : State} {m : MethodId} {args : Array Value} {below : List Frame} {meth : Method} {c : Code} {D : va_G} {aC : Nat → ClassId} {ad : Nat → Nat → Nat} {X : Nat → Nat → Prop} {S A : sS} {G : sG} {H : Heap} {locs : List Loc} (C0 : s_C p s m args meth c b6_accept 1 R6 none D aC) (hB : s_B D aC ad X (s_N ad X) S A G s.heap H locs) (hX : xC X G)   {ls : Array Slot} (hl : lv_has ls 1 [(0, .ref (ad 0 0))]) {o : sS × sS} (hO : O6_accept S A G  = o) : W p l e (rmk 0) s m args below meth c H locs 0 0 (MQ below (s_Qv D aC ad X G o) args s 0 0 (s_N ad X)) (F0 m 0 ls []) := by
  obtain ⟨hx, hb, hml, hown, hw, hK, hr, hlocks⟩ := id C0
  unfold O6_accept at hO
  refine lv_aload_n hx hb d6_accept_0 rfl (lv_at hl 0 rfl) ?_
  refine lv_aload_n hx hb d6_accept_1 rfl (lv_at hl 0 rfl) ?_
  refine sr_get (v := .int (S 0 0 8)) hx hb hw hown hK hB 8 (hX.1 0 (by decide)) cf_0 us6 (by decide) fl_6_54 (rfl) d6_accept_2 ?_
  refine sr_put hx hb hw hown hK hB 10 (hX.1 0 (by decide)) cf_0 us6 tk6 nm6 (by decide) fl_6_61 rfl rfl rfl rfl d6_accept_5 (fun H locs hB => ?_)
  exact se_v C0 hB (hO) d6_accept_8
theorem hd6_accept : y6_accept.cls = R6 ∧ y6_accept.cls ≠ "java/lang/invoke/MethodHandle" ∧ y6_accept.cls ≠ "java/lang/invoke/VarHandle" ∧ (parseMethodDescriptor y6_accept.desc).map (fun d => d.parameters.length) = some 0 := ⟨rfl, by decide, by decide, by decide +kernel⟩
theorem m6_accept {l : Launch} {D : va_G} {aC : Nat → ClassId} {ad : Nat → Nat → Nat} {X : Nat → Nat → Prop} {S A : sS} {G : sG} (hX : xC X G)   : Met l y6_accept (.code y6_accept b6_accept 1 none :: wall) (rmk 0) (s_Pc [.ref (ad 0 0)] D aC ad X S A G) (s_Qv D aC ad X G (O6_accept S A G )) 0 0 (s_N ad X) :=
  s_met (by decide) rfl (Nat.le_of_ble_eq_true rfl) (fun p e s m args below meth c C0 hB ls hl => k6_accept_0 C0 hB hX   hl rfl)

def O6_sendOut (S A : sS) (G : sG)  : sS × sS := ((up3 (up3 S 0 0 9 (-1)) 0 0 11 (-1)), A)
set_option maxRecDepth 100000 in
set_option maxHeartbeats 4000000 in
theorem k6_sendOut_0 {p : Program} {l : Launch} {e : Env} {s : State} {m : MethodId} {args : Array Value} {below : List Frame} {meth : Method} {c : Code} {D : va_G} {aC : Nat → ClassId} {ad : Nat → Nat → Nat} {X : Nat → Nat → Prop} {S A : sS} {G : sG} {H : Heap} {locs : List Loc} (C0 : s_C p s m args meth c b6_sendOut 1 R6 none D aC) (hB : s_B D aC ad X (s_N ad X) S A G s.heap H locs) (hX : xC X G)   {ls : Array Slot} (hl : lv_has ls 1 [(0, .ref (ad 0 0))]) {o : sS × sS} (hO : O6_sendOut S A G  = o) : W p l e (rmk 0) s m args below meth c H locs 0 0 (MQ below (s_Qv D aC ad X G o) args s 0 0 (s_N ad X)) (F0 m 0 ls []) := by
  obtain ⟨hx, hb, hml, hown, hw, hK, hr, hlocks⟩ := id C0
  unfold O6_sendOut at hO
  refine lv_aload_n hx hb d6_sendOut_0 rfl (lv_at hl 0 rfl) ?_
  refine lv_iconst (v := (-1)) hx hb d6_sendOut_1 (by decide) ?_
  refine sr_put hx hb hw hown hK hB 9 (hX.1 0 (by decide)) cf_0 us6 tk6 nm6 (by decide) fl_6_58 rfl rfl rfl rfl d6_sendOut_2 (fun H locs hB => ?_)
  refine lv_aload_n hx hb d6_sendOut_5 rfl (lv_at hl 0 rfl) ?_
  refine lv_iconst (v := (-1)) hx hb d6_sendOut_6 (by decide) ?_
  refine sr_put hx hb hw hown hK hB 11 (hX.1 0 (by decide)) cf_0 us6 tk6 nm6 (by decide) fl_6_64 rfl rfl rfl rfl d6_sendOut_7 (fun H locs hB => ?_)
  exact se_v C0 hB (hO) d6_sendOut_10
theorem hd6_sendOut : y6_sendOut.cls = R6 ∧ y6_sendOut.cls ≠ "java/lang/invoke/MethodHandle" ∧ y6_sendOut.cls ≠ "java/lang/invoke/VarHandle" ∧ (parseMethodDescriptor y6_sendOut.desc).map (fun d => d.parameters.length) = some 0 := ⟨rfl, by decide, by decide, by decide +kernel⟩
theorem m6_sendOut {l : Launch} {D : va_G} {aC : Nat → ClassId} {ad : Nat → Nat → Nat} {X : Nat → Nat → Prop} {S A : sS} {G : sG} (hX : xC X G)   : Met l y6_sendOut (.code y6_sendOut b6_sendOut 1 none :: wall) (rmk 0) (s_Pc [.ref (ad 0 0)] D aC ad X S A G) (s_Qv D aC ad X G (O6_sendOut S A G )) 0 0 (s_N ad X) :=
  s_met (by decide) rfl (Nat.le_of_ble_eq_true rfl) (fun p e s m args below meth c C0 hB ls hl => k6_sendOut_0 C0 hB hX   hl rfl)

def V6_isTarget (S A : sS) (G : sG) (x1 : Int32) (x2 : Int32) : Int32 := if x1 = 0 then V6_isOrder S A G x2 else if x1 = 1 then V6_isBin S A G x2 else if x1 = 2 then if V6_isBin S A G x2 = 0 then 0 else if S 15 (x2.toNatClampNeg) 2 = (-1) then 0 else 1 else if x1 = 3 then if V6_isBin S A G x2 = 0 then 0 else if S 15 (x2.toNatClampNeg) 2 = (-1) then 0 else 1 else 0
set_option maxRecDepth 100000 in
set_option maxHeartbeats 4000000 in
theorem k6_isTarget_0 {p : Program} {l : Launch} {e : Env} {s : State} {m : MethodId} {args : Array Value} {below : List Frame} {meth : Method} {c : Code} {D : va_G} {aC : Nat → ClassId} {ad : Nat → Nat → Nat} {X : Nat → Nat → Prop} {S A : sS} {G : sG} (C0 : s_C p s m args meth c b6_isTarget 3 R6 (some .boolean) D aC) (hB : s_B D aC ad X (s_N ad X) S A G s.heap s.heap []) (hX : xC X G) (x1 : Int32) (x2 : Int32)  {ls : Array Slot} (hl : lv_has ls 3 [(0, .ref (ad 0 0)), (1, .int x1), (2, .int x2)]) {o : Int32} (hO : V6_isTarget S A G x1 x2 = o) : W p l e (rmk 1) s m args below meth c s.heap [] 0 0 (MQ below (s_Qp o) args s 0 0 (fun _ => False)) (F0 m 0 ls []) := by
  obtain ⟨hx, hb, hml, hown, hw, hK, hr, hlocks⟩ := id C0
  unfold V6_isTarget at hO
  refine lv_iload_n hx hb d6_isTarget_0 rfl (lv_at hl 1 rfl) ?_
  by_cases c_1 : x1 = 0
  · refine lv_tableIn (tgt := 32) (off := 31) hx hb d6_isTarget_1 (by rw [c_1]; decide) (by rw [c_1]; decide) (by rw [c_1]; rfl) (by decide) ?_
    refine lv_aload_n hx hb d6_isTarget_32 rfl (lv_at hl 0 rfl) ?_
    refine lv_iload_n hx hb d6_isTarget_33 rfl (lv_at hl 2 rfl) ?_
    refine sr_vp C0 hB (m6_isOrder hX x2 ) (hX.1 0 (by decide)) cf_0 ml_6_111 im_6_isOrder se_6_isOrder in_6 cd_6_isOrder hd6_isOrder ⟨⟨rfl, rfl⟩, by decide, by decide⟩ ⟨Nat.zero_le _, Nat.zero_le _⟩ hl.1 rfl (Nat.le_of_ble_eq_true rfl) d6_isTarget_34 ?_
    exact se_pz C0 (by apply z6_isOrder) (by rw [if_pos c_1] at hO; exact hO) d6_isTarget_37
  · by_cases c_2 : x1 = 1
    · refine lv_tableIn (tgt := 38) (off := 37) hx hb d6_isTarget_1 (by rw [c_2]; decide) (by rw [c_2]; decide) (by rw [c_2]; rfl) (by decide) ?_
      refine lv_aload_n hx hb d6_isTarget_38 rfl (lv_at hl 0 rfl) ?_
      refine lv_iload_n hx hb d6_isTarget_39 rfl (lv_at hl 2 rfl) ?_
      refine sr_vp C0 hB (m6_isBin hX x2 ) (hX.1 0 (by decide)) cf_0 ml_6_230 im_6_isBin se_6_isBin in_6 cd_6_isBin hd6_isBin ⟨⟨rfl, rfl⟩, by decide, by decide⟩ ⟨Nat.zero_le _, Nat.zero_le _⟩ hl.1 rfl (Nat.le_of_ble_eq_true rfl) d6_isTarget_40 ?_
      exact se_pz C0 (by apply z6_isBin) (by rw [if_neg c_1, if_pos c_2] at hO; exact hO) d6_isTarget_43
    · by_cases c_3 : x1 = 2
      · refine lv_tableIn (tgt := 44) (off := 43) hx hb d6_isTarget_1 (by rw [c_3]; decide) (by rw [c_3]; decide) (by rw [c_3]; rfl) (by decide) ?_
        refine lv_aload_n hx hb d6_isTarget_44 rfl (lv_at hl 0 rfl) ?_
        refine lv_iload_n hx hb d6_isTarget_45 rfl (lv_at hl 2 rfl) ?_
        refine sr_vp C0 hB (m6_isBin hX x2 ) (hX.1 0 (by decide)) cf_0 ml_6_230 im_6_isBin se_6_isBin in_6 cd_6_isBin hd6_isBin ⟨⟨rfl, rfl⟩, by decide, by decide⟩ ⟨Nat.zero_le _, Nat.zero_le _⟩ hl.1 rfl (Nat.le_of_ble_eq_true rfl) d6_isTarget_46 ?_
        refine lv_if_eq (tgt := 69) hx hb d6_isTarget_49 (by decide) (fun c_4 => ?_) (fun c_4 => ?_)
        · refine lv_iconst (v := 0) hx hb d6_isTarget_69 (by decide) ?_
          exact se_pz C0 (Or.inl rfl) (by rw [if_neg c_1, if_neg c_2, if_pos c_3, if_pos c_4] at hO; exact hO) d6_isTarget_70
        · refine lv_aload_n hx hb d6_isTarget_52 rfl (lv_at hl 0 rfl) ?_
          refine sr_get (v := .ref (ad 3 0)) hx hb hw hown hK hB 2 (hX.1 0 (by decide)) cf_0 us6 (by decide) fl_6_23 (rfl) d6_isTarget_53 ?_
          refine lv_iload_n hx hb d6_isTarget_56 rfl (lv_at hl 2 rfl) ?_
          refine sr_aald (v := some (x2.toNatClampNeg)) hx hb hK hB (hX.1 3 (by decide)) rfl rfl rfl (by (refine vp_in_iff.mpr ?_); (show 0 ≤ x2.toInt ∧ x2.toInt < ((64 : Nat) : Int)); (have kc_4 := isBin_t c_4);  omega) d6_isTarget_57 (by exact gb hX (show x2.toNatClampNeg < 64 by (have kc_4 := isBin_t c_4); (have cc9 := cl_i (x := x2) (by omega));  omega)) ?_
          refine sr_get (v := .int (S 15 (x2.toNatClampNeg) 2)) hx hb hw hown hK hB 2 (hX.2.2.1 (x2.toNatClampNeg) (show x2.toNatClampNeg < 64 by (have kc_4 := isBin_t c_4); (have cc9 := cl_i (x := x2) (by omega));  omega)).1 cf_15 us0 (by decide) fl_6_155 (rfl) d6_isTarget_58 ?_
          refine lv_iconst (v := (-1)) hx hb d6_isTarget_61 (by decide) ?_
          refine lv_icmp_eq (tgt := 69) hx hb d6_isTarget_62 (by decide) (fun c_5 => ?_) (fun c_5 => ?_)
          · refine lv_iconst (v := 0) hx hb d6_isTarget_69 (by decide) ?_
            exact se_pz C0 (Or.inl rfl) (by rw [if_neg c_1, if_neg c_2, if_pos c_3, if_neg c_4, if_pos c_5] at hO; exact hO) d6_isTarget_70
          · refine lv_iconst (v := 1) hx hb d6_isTarget_65 (by decide) ?_
            refine lv_goto (tgt := 70) hx hb d6_isTarget_66 (by decide) ?_
            exact se_pz C0 (Or.inr rfl) (by rw [if_neg c_1, if_neg c_2, if_pos c_3, if_neg c_4, if_neg c_5] at hO; exact hO) d6_isTarget_70
      · by_cases c_6 : x1 = 3
        · refine lv_tableIn (tgt := 44) (off := 43) hx hb d6_isTarget_1 (by rw [c_6]; decide) (by rw [c_6]; decide) (by rw [c_6]; rfl) (by decide) ?_
          refine lv_aload_n hx hb d6_isTarget_44 rfl (lv_at hl 0 rfl) ?_
          refine lv_iload_n hx hb d6_isTarget_45 rfl (lv_at hl 2 rfl) ?_
          refine sr_vp C0 hB (m6_isBin hX x2 ) (hX.1 0 (by decide)) cf_0 ml_6_230 im_6_isBin se_6_isBin in_6 cd_6_isBin hd6_isBin ⟨⟨rfl, rfl⟩, by decide, by decide⟩ ⟨Nat.zero_le _, Nat.zero_le _⟩ hl.1 rfl (Nat.le_of_ble_eq_true rfl) d6_isTarget_46 ?_
          refine lv_if_eq (tgt := 69) hx hb d6_isTarget_49 (by decide) (fun c_7 => ?_) (fun c_7 => ?_)
          · refine lv_iconst (v := 0) hx hb d6_isTarget_69 (by decide) ?_
            exact se_pz C0 (Or.inl rfl) (by rw [if_neg c_1, if_neg c_2, if_neg c_3, if_pos c_6, if_pos c_7] at hO; exact hO) d6_isTarget_70
          · refine lv_aload_n hx hb d6_isTarget_52 rfl (lv_at hl 0 rfl) ?_
            refine sr_get (v := .ref (ad 3 0)) hx hb hw hown hK hB 2 (hX.1 0 (by decide)) cf_0 us6 (by decide) fl_6_23 (rfl) d6_isTarget_53 ?_
            refine lv_iload_n hx hb d6_isTarget_56 rfl (lv_at hl 2 rfl) ?_
            refine sr_aald (v := some (x2.toNatClampNeg)) hx hb hK hB (hX.1 3 (by decide)) rfl rfl rfl (by (refine vp_in_iff.mpr ?_); (show 0 ≤ x2.toInt ∧ x2.toInt < ((64 : Nat) : Int)); (have kc_7 := isBin_t c_7);  omega) d6_isTarget_57 (by exact gb hX (show x2.toNatClampNeg < 64 by (have kc_7 := isBin_t c_7); (have cc9 := cl_i (x := x2) (by omega));  omega)) ?_
            refine sr_get (v := .int (S 15 (x2.toNatClampNeg) 2)) hx hb hw hown hK hB 2 (hX.2.2.1 (x2.toNatClampNeg) (show x2.toNatClampNeg < 64 by (have kc_7 := isBin_t c_7); (have cc9 := cl_i (x := x2) (by omega));  omega)).1 cf_15 us0 (by decide) fl_6_155 (rfl) d6_isTarget_58 ?_
            refine lv_iconst (v := (-1)) hx hb d6_isTarget_61 (by decide) ?_
            refine lv_icmp_eq (tgt := 69) hx hb d6_isTarget_62 (by decide) (fun c_8 => ?_) (fun c_8 => ?_)
            · refine lv_iconst (v := 0) hx hb d6_isTarget_69 (by decide) ?_
              exact se_pz C0 (Or.inl rfl) (by rw [if_neg c_1, if_neg c_2, if_neg c_3, if_pos c_6, if_neg c_7, if_pos c_8] at hO; exact hO) d6_isTarget_70
            · refine lv_iconst (v := 1) hx hb d6_isTarget_65 (by decide) ?_
              refine lv_goto (tgt := 70) hx hb d6_isTarget_66 (by decide) ?_
              exact se_pz C0 (Or.inr rfl) (by rw [if_neg c_1, if_neg c_2, if_neg c_3, if_pos c_6, if_neg c_7, if_neg c_8] at hO; exact hO) d6_isTarget_70
        · refine lv_tableOut (tgt := 71) hx hb d6_isTarget_1 (tab_out 4 (by decide) (by decide) (fun k hk h => by rcases (show k = 0 ∨ k = 1 ∨ k = 2 ∨ k = 3 by omega) with rfl | rfl | rfl | rfl <;> first | exact c_1 h | exact c_2 h | exact c_3 h | exact c_6 h)) (by decide) ?_
          refine lv_iconst (v := 0) hx hb d6_isTarget_71 (by decide) ?_
          exact se_pz C0 (Or.inl rfl) (by rw [if_neg c_1, if_neg c_2, if_neg c_3, if_neg c_6] at hO; exact hO) d6_isTarget_72
theorem z6_isTarget (S A : sS) (G : sG) (x1 : Int32) (x2 : Int32) : V6_isTarget S A G x1 x2 = 0 ∨ V6_isTarget S A G x1 x2 = 1 := by
  unfold V6_isTarget
  (repeat' split) <;> first | exact Or.inl rfl | exact Or.inr rfl | apply z6_isBin | apply z6_isOrder
theorem hd6_isTarget : y6_isTarget.cls = R6 ∧ y6_isTarget.cls ≠ "java/lang/invoke/MethodHandle" ∧ y6_isTarget.cls ≠ "java/lang/invoke/VarHandle" ∧ (parseMethodDescriptor y6_isTarget.desc).map (fun d => d.parameters.length) = some 2 := ⟨rfl, by decide, by decide, by decide +kernel⟩
theorem m6_isTarget {l : Launch} {D : va_G} {aC : Nat → ClassId} {ad : Nat → Nat → Nat} {X : Nat → Nat → Prop} {S A : sS} {G : sG} (hX : xC X G) (x1 : Int32) (x2 : Int32)  : Met l y6_isTarget (.code y6_isTarget b6_isTarget 3 (some .boolean) :: wall) (rmk 1) (s_Pc [.ref (ad 0 0), .int x1, .int x2] D aC ad X S A G) (s_Qp (V6_isTarget S A G x1 x2)) 0 0 (fun _ => False) :=
  s_met (by decide) rfl (Nat.le_of_ble_eq_true rfl) (fun p e s m args below meth c C0 hB ls hl => k6_isTarget_0 C0 hB hX x1 x2  hl rfl)

theorem isTarget_t {S A : sS} {G : sG} {x1 x2 : Int32} (h : ¬ V6_isTarget S A G x1 x2 = 0) : (x1 = 0 → 0 ≤ x2.toInt ∧ x2.toInt < (S 0 0 13).toInt) ∧ (¬ x1 = 0 → 0 ≤ x2.toInt ∧ x2.toInt < 64) := by
  unfold V6_isTarget at h
  by_cases c0 : x1 = 0
  · rw [if_pos c0] at h
    exact ⟨fun _ => isOrder_t h, fun q => absurd c0 q⟩
  · rw [if_neg c0] at h
    refine ⟨fun q => absurd q c0, fun _ => ?_⟩
    by_cases c1 : x1 = 1
    · rw [if_pos c1] at h
      exact isBin_t h
    · rw [if_neg c1] at h
      by_cases cb : V6_isBin S A G x2 = 0
      · simp [cb] at h
      · exact isBin_t cb
theorem isTarget_b {S A : sS} {G : sG} {x1 x2 : Int32} (h : ¬ V6_isTarget S A G x1 x2 = 0) (ho : (S 0 0 13).toInt ≤ 60) : 0 ≤ x2.toInt ∧ x2.toInt < 64 := by
  obtain ⟨a, b⟩ := isTarget_t h
  by_cases c : x1 = 0
  · have := a c; omega
  · exact b c

def V6_wantsWitness (S A : sS) (G : sG) (x1 : Int32) (x2 : Int32) : Int32 := if x1 = 3 then 1 else if x1 = 0 then if V6_isControlled S A G (S 14 (x2.toNatClampNeg) 0) = 0 then 0 else 1 else 0
set_option maxRecDepth 100000 in
set_option maxHeartbeats 4000000 in
theorem k6_wantsWitness_0 {p : Program} {l : Launch} {e : Env} {s : State} {m : MethodId} {args : Array Value} {below : List Frame} {meth : Method} {c : Code} {D : va_G} {aC : Nat → ClassId} {ad : Nat → Nat → Nat} {X : Nat → Nat → Prop} {S A : sS} {G : sG} (C0 : s_C p s m args meth c b6_wantsWitness 3 R6 (some .boolean) D aC) (hB : s_B D aC ad X (s_N ad X) S A G s.heap s.heap []) (hX : xC X G) (x1 : Int32) (x2 : Int32) (htg : x1 = 0 → 0 ≤ x2.toInt ∧ x2.toInt < (S 0 0 13).toInt) (hoc : 0 ≤ (S 0 0 13).toInt ∧ (S 0 0 13).toInt ≤ 60) (hgo : ∀ i : Nat, (i : Int) < (S 0 0 13).toInt → ¬ G 4 i = none) {ls : Array Slot} (hl : lv_has ls 3 [(0, .ref (ad 0 0)), (1, .int x1), (2, .int x2)]) {o : Int32} (hO : V6_wantsWitness S A G x1 x2 = o) : W p l e (rmk 2) s m args below meth c s.heap [] 0 0 (MQ below (s_Qp o) args s 0 0 (fun _ => False)) (F0 m 0 ls []) := by
  obtain ⟨hx, hb, hml, hown, hw, hK, hr, hlocks⟩ := id C0
  unfold V6_wantsWitness at hO
  refine lv_iload_n hx hb d6_wantsWitness_0 rfl (lv_at hl 1 rfl) ?_
  refine lv_iconst (v := 3) hx hb d6_wantsWitness_1 (by decide) ?_
  refine lv_icmp_eq (tgt := 25) hx hb d6_wantsWitness_2 (by decide) (fun c_1 => ?_) (fun c_1 => ?_)
  · refine lv_iconst (v := 1) hx hb d6_wantsWitness_25 (by decide) ?_
    refine lv_goto (tgt := 30) hx hb d6_wantsWitness_26 (by decide) ?_
    exact se_pz C0 (Or.inr rfl) (by rw [if_pos c_1] at hO; exact hO) d6_wantsWitness_30
  · refine lv_iload_n hx hb d6_wantsWitness_5 rfl (lv_at hl 1 rfl) ?_
    refine lv_if_ne (tgt := 29) hx hb d6_wantsWitness_6 (by decide) (fun c_2 => ?_) (fun c_2 => ?_)
    · refine lv_iconst (v := 0) hx hb d6_wantsWitness_29 (by decide) ?_
      exact se_pz C0 (Or.inl rfl) (by rw [if_neg c_1, if_neg c_2] at hO; exact hO) d6_wantsWitness_30
    · refine lv_aload_n hx hb d6_wantsWitness_9 rfl (lv_at hl 0 rfl) ?_
      refine lv_aload_n hx hb d6_wantsWitness_10 rfl (lv_at hl 0 rfl) ?_
      refine sr_get (v := .ref (ad 4 0)) hx hb hw hown hK hB 3 (hX.1 0 (by decide)) cf_0 us6 (by decide) fl_6_29 (rfl) d6_wantsWitness_11 ?_
      refine lv_iload_n hx hb d6_wantsWitness_14 rfl (lv_at hl 2 rfl) ?_
      refine sr_aald (v := some (x2.toNatClampNeg)) hx hb hK hB (hX.1 4 (by decide)) rfl rfl rfl (by (refine vp_in_iff.mpr ?_); (show 0 ≤ x2.toInt ∧ x2.toInt < ((60 : Nat) : Int)); (have q := htg (by assumption));  omega) d6_wantsWitness_15 (by exact (go hX (i := x2.toNatClampNeg) (by have q := htg (by assumption); exact hgo _ (by have := cl_i q.1; omega))).1) ?_
      refine sr_get (v := .int (S 14 (x2.toNatClampNeg) 0)) hx hb hw hown hK hB 0 (go hX (i := x2.toNatClampNeg) (by have q := htg (by assumption); exact hgo _ (by have := cl_i q.1; omega))).2 cf_14 us3 (by decide) fl_6_139 (rfl) d6_wantsWitness_16 ?_
      refine sr_vp C0 hB (m6_isControlled hX (S 14 (x2.toNatClampNeg) 0) ) (hX.1 0 (by decide)) cf_0 ml_6_156 im_6_isControlled se_6_isControlled in_6 cd_6_isControlled hd6_isControlled ⟨⟨rfl, rfl⟩, by decide, by decide⟩ ⟨Nat.zero_le _, Nat.zero_le _⟩ hl.1 rfl (Nat.le_of_ble_eq_true rfl) d6_wantsWitness_19 ?_
      refine lv_if_eq (tgt := 29) hx hb d6_wantsWitness_22 (by decide) (fun c_3 => ?_) (fun c_3 => ?_)
      · refine lv_iconst (v := 0) hx hb d6_wantsWitness_29 (by decide) ?_
        exact se_pz C0 (Or.inl rfl) (by rw [if_neg c_1, if_pos c_2, if_pos c_3] at hO; exact hO) d6_wantsWitness_30
      · refine lv_iconst (v := 1) hx hb d6_wantsWitness_25 (by decide) ?_
        refine lv_goto (tgt := 30) hx hb d6_wantsWitness_26 (by decide) ?_
        exact se_pz C0 (Or.inr rfl) (by rw [if_neg c_1, if_pos c_2, if_neg c_3] at hO; exact hO) d6_wantsWitness_30
theorem z6_wantsWitness (S A : sS) (G : sG) (x1 : Int32) (x2 : Int32) : V6_wantsWitness S A G x1 x2 = 0 ∨ V6_wantsWitness S A G x1 x2 = 1 := by
  unfold V6_wantsWitness
  (repeat' split) <;> first | exact Or.inl rfl | exact Or.inr rfl | apply z6_isControlled
theorem hd6_wantsWitness : y6_wantsWitness.cls = R6 ∧ y6_wantsWitness.cls ≠ "java/lang/invoke/MethodHandle" ∧ y6_wantsWitness.cls ≠ "java/lang/invoke/VarHandle" ∧ (parseMethodDescriptor y6_wantsWitness.desc).map (fun d => d.parameters.length) = some 2 := ⟨rfl, by decide, by decide, by decide +kernel⟩
theorem m6_wantsWitness {l : Launch} {D : va_G} {aC : Nat → ClassId} {ad : Nat → Nat → Nat} {X : Nat → Nat → Prop} {S A : sS} {G : sG} (hX : xC X G) (x1 : Int32) (x2 : Int32) (htg : x1 = 0 → 0 ≤ x2.toInt ∧ x2.toInt < (S 0 0 13).toInt) (hoc : 0 ≤ (S 0 0 13).toInt ∧ (S 0 0 13).toInt ≤ 60) (hgo : ∀ i : Nat, (i : Int) < (S 0 0 13).toInt → ¬ G 4 i = none) : Met l y6_wantsWitness (.code y6_wantsWitness b6_wantsWitness 3 (some .boolean) :: wall) (rmk 2) (s_Pc [.ref (ad 0 0), .int x1, .int x2] D aC ad X S A G) (s_Qp (V6_wantsWitness S A G x1 x2)) 0 0 (fun _ => False) :=
  s_met (by decide) rfl (Nat.le_of_ble_eq_true rfl) (fun p e s m args below meth c C0 hB ls hl => k6_wantsWitness_0 C0 hB hX x1 x2 htg hoc hgo hl rfl)

def V6_givenOf_4 (G : sG) (x1 : Int32) : Nat → sS → sS → Int32 → Nat → Int32
  | 0, S, A, _, _ => 0
  | r + 1, S, A, z2, j3 => if 64 ≤ nI j3 then z2 else if S 15 j3 2 = x1 then V6_givenOf_4 G x1 r S A (z2 + (V0_given S A G j3 (S 0 0 8))) (j3 + 1) else V6_givenOf_4 G x1 r S A z2 (j3 + 1)
def V6_givenOf (S A : sS) (G : sG) (x1 : Int32) : Int32 := V6_givenOf_4 G x1 65 S A 0 0
set_option maxRecDepth 100000 in
set_option maxHeartbeats 4000000 in
theorem k6_givenOf_4 {p : Program} {l : Launch} {e : Env} {s : State} {m : MethodId} {args : Array Value} {below : List Frame} {meth : Method} {c : Code} {D : va_G} {aC : Nat → ClassId} {ad : Nat → Nat → Nat} {X : Nat → Nat → Prop} {G : sG} {S A : sS} (C0 : s_C p s m args meth c b6_givenOf 4 R6 (some .int) D aC) (hB : s_B D aC ad X (s_N ad X) S A G s.heap s.heap []) (hX : xC X G) (x1 : Int32) (hlo : ∀ i, i < 64 → 0 ≤ (S 15 i 3).toInt ∧ (S 15 i 3).toInt ≤ 6) : ∀ (r : Nat) (z2 : Int32) (j3 : Nat) (hj : j3 ≤ 64) (hr3 : 64 < j3 + r) {ls : Array Slot} (hl : lv_has ls 4 [(0, .ref (ad 0 0)), (1, .int x1), (2, .int z2), (3, .int (nI j3))]) {o : Int32} (hO : V6_givenOf_4 G x1 r S A z2 j3 = o), W p l e (rmk 2) s m args below meth c s.heap [] 0 0 (MQ below (s_Qp o) args s 0 0 (fun _ => False)) (F0 m 4 ls []) := by
  obtain ⟨hx, hb, hml, hown, hw, hK, hr, hlocks⟩ := id C0
  intro r
  induction r with
  | zero =>
    intro z2 j3 hj hr3 ls hl o hO
    exact absurd hr3 (by omega)
  | succ r ih =>
    intro z2 j3 hj hr3 ls hl o hO
    rw [V6_givenOf_4] at hO
    refine lv_iload_n hx hb d6_givenOf_4 rfl (lv_at hl 3 rfl) ?_
    refine lv_bipush (v := 64) hx hb d6_givenOf_5 (by decide) ?_
    refine lv_icmp_ge (tgt := 45) hx hb d6_givenOf_7 (by decide) (fun c_1 => ?_) (fun c_1 => ?_)
    · refine lv_iload_n hx hb d6_givenOf_45 rfl (lv_at hl 2 rfl) ?_
      exact se_pi C0 (by rw [if_pos c_1] at hO; exact hO) d6_givenOf_46
    · refine lv_aload_n hx hb d6_givenOf_10 rfl (lv_at hl 0 rfl) ?_
      refine sr_get (v := .ref (ad 3 0)) hx hb hw hown hK hB 2 (hX.1 0 (by decide)) cf_0 us6 (by decide) fl_6_23 (rfl) d6_givenOf_11 ?_
      refine lv_iload_n hx hb d6_givenOf_14 rfl (lv_at hl 3 rfl) ?_
      refine sr_aald (v := some j3) hx hb hK hB (hX.1 3 (by decide)) rfl rfl rfl (vp_in_nI (show j3 < 64 by (have aj3 := nI_toInt (n := j3) (by omega)); (have kc_1 := nle_i c_1); (have l64 : (64 : Int32).toInt = 64 := rfl);  omega) (by decide)) d6_givenOf_15 (by rw [nI_clamp (show j3 < 2 ^ 31 by omega)]; exact gb hX (show j3 < 64 by (have aj3 := nI_toInt (n := j3) (by omega)); (have kc_1 := nle_i c_1); (have l64 : (64 : Int32).toInt = 64 := rfl);  omega)) ?_
      refine sr_get (v := .int (S 15 j3 2)) hx hb hw hown hK hB 2 (hX.2.2.1 (j3) (show j3 < 64 by (have aj3 := nI_toInt (n := j3) (by omega)); (have kc_1 := nle_i c_1); (have l64 : (64 : Int32).toInt = 64 := rfl);  omega)).1 cf_15 us0 (by decide) fl_6_155 (rfl) d6_givenOf_16 ?_
      refine lv_iload_n hx hb d6_givenOf_19 rfl (lv_at hl 1 rfl) ?_
      refine lv_icmp_ne (tgt := 39) hx hb d6_givenOf_20 (by decide) (fun c_2 => ?_) (fun c_2 => ?_)
      · refine lv_iinc (v := nI (j3 + 1)) (lv' := [(3, .int (nI (j3 + 1))), (0, .ref (ad 0 0)), (1, .int x1), (2, .int z2)]) hx hb d6_givenOf_39 hl (k := 3) rfl (nI_1 j3) (by decide) rfl (fun ls hl => ?_)
        refine lv_goto (tgt := 4) hx hb d6_givenOf_42 (by decide) ?_
        exact ih z2 (j3 + 1) (by (have aj3 := nI_toInt (n := j3) (by omega)); (have kc_1 := nle_i c_1); (have kc_2 := ne_i c_2); (have l15 : (15 : Int32).toInt = 15 := rfl); (have l2 : (2 : Int32).toInt = 2 := rfl); (have l64 : (64 : Int32).toInt = 64 := rfl);  omega) (by (have aj3 := nI_toInt (n := j3) (by omega)); (have kc_1 := nle_i c_1); (have kc_2 := ne_i c_2); (have l15 : (15 : Int32).toInt = 15 := rfl); (have l2 : (2 : Int32).toInt = 2 := rfl); (have l64 : (64 : Int32).toInt = 64 := rfl);  omega) (lv_sub hl [1, 2, 3, 0] rfl) (by rw [if_neg c_1, if_neg c_2] at hO; exact hO)
      · refine lv_iload_n hx hb d6_givenOf_23 rfl (lv_at hl 2 rfl) ?_
        refine lv_aload_n hx hb d6_givenOf_24 rfl (lv_at hl 0 rfl) ?_
        refine sr_get (v := .ref (ad 3 0)) hx hb hw hown hK hB 2 (hX.1 0 (by decide)) cf_0 us6 (by decide) fl_6_23 (rfl) d6_givenOf_25 ?_
        refine lv_iload_n hx hb d6_givenOf_28 rfl (lv_at hl 3 rfl) ?_
        refine sr_aald (v := some j3) hx hb hK hB (hX.1 3 (by decide)) rfl rfl rfl (vp_in_nI (show j3 < 64 by (have aj3 := nI_toInt (n := j3) (by omega)); (have kc_1 := nle_i c_1); (have kc_2 := congrArg Int32.toInt c_2); (have l15 : (15 : Int32).toInt = 15 := rfl); (have l2 : (2 : Int32).toInt = 2 := rfl); (have l64 : (64 : Int32).toInt = 64 := rfl);  omega) (by decide)) d6_givenOf_29 (by rw [nI_clamp (show j3 < 2 ^ 31 by omega)]; exact gb hX (show j3 < 64 by (have aj3 := nI_toInt (n := j3) (by omega)); (have kc_1 := nle_i c_1); (have kc_2 := congrArg Int32.toInt c_2); (have l15 : (15 : Int32).toInt = 15 := rfl); (have l2 : (2 : Int32).toInt = 2 := rfl); (have l64 : (64 : Int32).toInt = 64 := rfl);  omega)) ?_
        refine lv_aload_n hx hb d6_givenOf_30 rfl (lv_at hl 0 rfl) ?_
        refine sr_get (v := .int (S 0 0 8)) hx hb hw hown hK hB 8 (hX.1 0 (by decide)) cf_0 us6 (by decide) fl_6_54 (rfl) d6_givenOf_31 ?_
        refine sr_vp C0 hB (m0_given hX j3 (S 0 0 8) (by (have aj3 := nI_toInt (n := j3) (by omega)); (have kc_1 := nle_i c_1); (have kc_2 := congrArg Int32.toInt c_2); (have l15 : (15 : Int32).toInt = 15 := rfl); (have l2 : (2 : Int32).toInt = 2 := rfl); (have l64 : (64 : Int32).toInt = 64 := rfl);  omega) (hlo _ (by (have aj3 := nI_toInt (n := j3) (by omega)); (have kc_1 := nle_i c_1); (have kc_2 := congrArg Int32.toInt c_2); (have l15 : (15 : Int32).toInt = 15 := rfl); (have l2 : (2 : Int32).toInt = 2 := rfl); (have l64 : (64 : Int32).toInt = 64 := rfl);  omega))) (hX.2.2.1 (j3) (show j3 < 64 by (have aj3 := nI_toInt (n := j3) (by omega)); (have kc_1 := nle_i c_1); (have kc_2 := congrArg Int32.toInt c_2); (have l15 : (15 : Int32).toInt = 15 := rfl); (have l2 : (2 : Int32).toInt = 2 := rfl); (have l64 : (64 : Int32).toInt = 64 := rfl);  omega)).1 cf_15 ml_6_191 im_0_given se_0_given in_0 cd_0_given hd0_given ⟨⟨rfl, rfl⟩, by decide, by decide⟩ ⟨Nat.zero_le _, Nat.zero_le _⟩ hl.1 rfl (Nat.le_of_ble_eq_true rfl) d6_givenOf_34 ?_
        refine lv_iadd hx hb d6_givenOf_37 ?_
        refine lv_istore_n (lv' := [(2, .int (z2 + (V0_given S A G j3 (S 0 0 8)))), (0, .ref (ad 0 0)), (1, .int x1), (3, .int (nI j3))]) hx hb d6_givenOf_38 rfl hl (by decide) rfl (fun ls hl => ?_)
        refine lv_iinc (v := nI (j3 + 1)) (lv' := [(3, .int (nI (j3 + 1))), (2, .int (z2 + (V0_given S A G j3 (S 0 0 8)))), (0, .ref (ad 0 0)), (1, .int x1)]) hx hb d6_givenOf_39 hl (k := 3) rfl (nI_1 j3) (by decide) rfl (fun ls hl => ?_)
        refine lv_goto (tgt := 4) hx hb d6_givenOf_42 (by decide) ?_
        exact ih (z2 + (V0_given S A G j3 (S 0 0 8))) (j3 + 1) (by (have aj3 := nI_toInt (n := j3) (by omega)); (have kc_1 := nle_i c_1); (have kc_2 := congrArg Int32.toInt c_2); (have l15 : (15 : Int32).toInt = 15 := rfl); (have l2 : (2 : Int32).toInt = 2 := rfl); (have l64 : (64 : Int32).toInt = 64 := rfl);  omega) (by (have aj3 := nI_toInt (n := j3) (by omega)); (have kc_1 := nle_i c_1); (have kc_2 := congrArg Int32.toInt c_2); (have l15 : (15 : Int32).toInt = 15 := rfl); (have l2 : (2 : Int32).toInt = 2 := rfl); (have l64 : (64 : Int32).toInt = 64 := rfl);  omega) (lv_sub hl [2, 3, 1, 0] rfl) (by rw [if_neg c_1, if_pos c_2] at hO; exact hO)
set_option maxRecDepth 100000 in
set_option maxHeartbeats 4000000 in
theorem k6_givenOf_0 {p : Program} {l : Launch} {e : Env} {s : State} {m : MethodId} {args : Array Value} {below : List Frame} {meth : Method} {c : Code} {D : va_G} {aC : Nat → ClassId} {ad : Nat → Nat → Nat} {X : Nat → Nat → Prop} {S A : sS} {G : sG} (C0 : s_C p s m args meth c b6_givenOf 4 R6 (some .int) D aC) (hB : s_B D aC ad X (s_N ad X) S A G s.heap s.heap []) (hX : xC X G) (x1 : Int32) (hlo : ∀ i, i < 64 → 0 ≤ (S 15 i 3).toInt ∧ (S 15 i 3).toInt ≤ 6) {ls : Array Slot} (hl : lv_has ls 4 [(0, .ref (ad 0 0)), (1, .int x1)]) {o : Int32} (hO : V6_givenOf S A G x1 = o) : W p l e (rmk 2) s m args below meth c s.heap [] 0 0 (MQ below (s_Qp o) args s 0 0 (fun _ => False)) (F0 m 0 ls []) := by
  obtain ⟨hx, hb, hml, hown, hw, hK, hr, hlocks⟩ := id C0
  unfold V6_givenOf at hO
  refine lv_iconst (v := 0) hx hb d6_givenOf_0 (by decide) ?_
  refine lv_istore_n (lv' := [(2, .int 0), (0, .ref (ad 0 0)), (1, .int x1)]) hx hb d6_givenOf_1 rfl hl (by decide) rfl (fun ls hl => ?_)
  refine lv_iconst (v := 0) hx hb d6_givenOf_2 (by decide) ?_
  refine lv_istore_n (lv' := [(3, .int 0), (2, .int 0), (0, .ref (ad 0 0)), (1, .int x1)]) hx hb d6_givenOf_3 rfl hl (by decide) rfl (fun ls hl => ?_)
  exact k6_givenOf_4 C0 hB hX x1 hlo 65 0 0 (by  omega) (by  omega) (lv_sub hl [2, 3, 1, 0] rfl) (hO)
theorem hd6_givenOf : y6_givenOf.cls = R6 ∧ y6_givenOf.cls ≠ "java/lang/invoke/MethodHandle" ∧ y6_givenOf.cls ≠ "java/lang/invoke/VarHandle" ∧ (parseMethodDescriptor y6_givenOf.desc).map (fun d => d.parameters.length) = some 1 := ⟨rfl, by decide, by decide, by decide +kernel⟩
theorem m6_givenOf {l : Launch} {D : va_G} {aC : Nat → ClassId} {ad : Nat → Nat → Nat} {X : Nat → Nat → Prop} {S A : sS} {G : sG} (hX : xC X G) (x1 : Int32) (hlo : ∀ i, i < 64 → 0 ≤ (S 15 i 3).toInt ∧ (S 15 i 3).toInt ≤ 6) : Met l y6_givenOf (.code y6_givenOf b6_givenOf 4 (some .int) :: wall) (rmk 2) (s_Pc [.ref (ad 0 0), .int x1] D aC ad X S A G) (s_Qp (V6_givenOf S A G x1)) 0 0 (fun _ => False) :=
  s_met (by decide) rfl (Nat.le_of_ble_eq_true rfl) (fun p e s m args below meth c C0 hB ls hl => k6_givenOf_0 C0 hB hX x1 hlo hl rfl)

def V6_belowPar (S A : sS) (G : sG) (x1 : Int32) : Int32 := if 0 < (S 13 (x1.toNatClampNeg) 1) - (V6_givenOf S A G x1) then (S 13 (x1.toNatClampNeg) 1) - (V6_givenOf S A G x1) else 0
set_option maxRecDepth 100000 in
set_option maxHeartbeats 4000000 in
theorem k6_belowPar_0 {p : Program} {l : Launch} {e : Env} {s : State} {m : MethodId} {args : Array Value} {below : List Frame} {meth : Method} {c : Code} {D : va_G} {aC : Nat → ClassId} {ad : Nat → Nat → Nat} {X : Nat → Nat → Prop} {S A : sS} {G : sG} (C0 : s_C p s m args meth c b6_belowPar 2 R6 (some .int) D aC) (hB : s_B D aC ad X (s_N ad X) S A G s.heap s.heap []) (hX : xC X G) (x1 : Int32) (hlo : ∀ i, i < 64 → 0 ≤ (S 15 i 3).toInt ∧ (S 15 i 3).toInt ≤ 6) (hi : 0 ≤ x1.toInt ∧ x1.toInt < 32) (hn : ¬ G 2 x1.toNatClampNeg = none) {ls : Array Slot} (hl : lv_has ls 2 [(0, .ref (ad 0 0)), (1, .int x1)]) {o : Int32} (hO : V6_belowPar S A G x1 = o) : W p l e (rmk 3) s m args below meth c s.heap [] 0 0 (MQ below (s_Qp o) args s 0 0 (fun _ => False)) (F0 m 0 ls []) := by
  obtain ⟨hx, hb, hml, hown, hw, hK, hr, hlocks⟩ := id C0
  unfold V6_belowPar at hO
  refine lv_iconst (v := 0) hx hb d6_belowPar_0 (by decide) ?_
  refine lv_aload_n hx hb d6_belowPar_1 rfl (lv_at hl 0 rfl) ?_
  refine sr_get (v := .ref (ad 2 0)) hx hb hw hown hK hB 1 (hX.1 0 (by decide)) cf_0 us6 (by decide) fl_6_17 (rfl) d6_belowPar_2 ?_
  refine lv_iload_n hx hb d6_belowPar_5 rfl (lv_at hl 1 rfl) ?_
  refine sr_aald (v := some (x1.toNatClampNeg)) hx hb hK hB (hX.1 2 (by decide)) rfl rfl rfl (by (refine vp_in_iff.mpr ?_); (show 0 ≤ x1.toInt ∧ x1.toInt < ((32 : Nat) : Int));  omega) d6_belowPar_6 (by exact (gi hX (i := x1.toNatClampNeg) (hn)).1) ?_
  refine sr_get (v := .int (S 13 (x1.toNatClampNeg) 1)) hx hb hw hown hK hB 1 (gi hX (i := x1.toNatClampNeg) (hn)).2 cf_13 us1 (by decide) fl_6_305 (rfl) d6_belowPar_7 ?_
  refine lv_aload_n hx hb d6_belowPar_10 rfl (lv_at hl 0 rfl) ?_
  refine lv_iload_n hx hb d6_belowPar_11 rfl (lv_at hl 1 rfl) ?_
  refine sr_vp C0 hB (m6_givenOf hX x1 (by  first | assumption | omega)) (hX.1 0 (by decide)) cf_0 ml_6_239 im_6_givenOf se_6_givenOf in_6 cd_6_givenOf hd6_givenOf ⟨⟨rfl, rfl⟩, by decide, by decide⟩ ⟨Nat.zero_le _, Nat.zero_le _⟩ hl.1 rfl (Nat.le_of_ble_eq_true rfl) d6_belowPar_12 ?_
  refine lv_isub hx hb d6_belowPar_15 ?_
  refine va_mmax hx hb (by rw [hml]; exact hl.1.symm) hown (hw _ ml_6_308) (hw _ st_M_max) (hw _ in_M) (hw _ cd_M_max) (by decide) (Nat.le_of_ble_eq_true rfl) (Nat.zero_le _) (Nat.zero_le _) d6_belowPar_16 ?_
  exact se_pi C0 (hO) d6_belowPar_19
theorem hd6_belowPar : y6_belowPar.cls = R6 ∧ y6_belowPar.cls ≠ "java/lang/invoke/MethodHandle" ∧ y6_belowPar.cls ≠ "java/lang/invoke/VarHandle" ∧ (parseMethodDescriptor y6_belowPar.desc).map (fun d => d.parameters.length) = some 1 := ⟨rfl, by decide, by decide, by decide +kernel⟩
theorem m6_belowPar {l : Launch} {D : va_G} {aC : Nat → ClassId} {ad : Nat → Nat → Nat} {X : Nat → Nat → Prop} {S A : sS} {G : sG} (hX : xC X G) (x1 : Int32) (hlo : ∀ i, i < 64 → 0 ≤ (S 15 i 3).toInt ∧ (S 15 i 3).toInt ≤ 6) (hi : 0 ≤ x1.toInt ∧ x1.toInt < 32) (hn : ¬ G 2 x1.toNatClampNeg = none) : Met l y6_belowPar (.code y6_belowPar b6_belowPar 2 (some .int) :: wall) (rmk 3) (s_Pc [.ref (ad 0 0), .int x1] D aC ad X S A G) (s_Qp (V6_belowPar S A G x1)) 0 0 (fun _ => False) :=
  s_met (by decide) rfl (Nat.le_of_ble_eq_true rfl) (fun p e s m args below meth c C0 hB ls hl => k6_belowPar_0 C0 hB hX x1 hlo hi hn hl rfl)

def V6_isAnyLocked_2 (G : sG)  : Nat → sS → sS → Nat → Int32
  | 0, S, A, _ => 0
  | r + 1, S, A, j1 => if 16 ≤ nI j1 then 0 else if V6_isUser S A G (nI j1) = 0 then V6_isAnyLocked_2 G  r S A (j1 + 1) else if V5_isLocked S A G j1 (S 0 0 8) = 0 then V6_isAnyLocked_2 G  r S A (j1 + 1) else 1
def V6_isAnyLocked (S A : sS) (G : sG)  : Int32 := V6_isAnyLocked_2 G  17 S A 0
set_option maxRecDepth 100000 in
set_option maxHeartbeats 4000000 in
theorem k6_isAnyLocked_2 {p : Program} {l : Launch} {e : Env} {s : State} {m : MethodId} {args : Array Value} {below : List Frame} {meth : Method} {c : Code} {D : va_G} {aC : Nat → ClassId} {ad : Nat → Nat → Nat} {X : Nat → Nat → Prop} {G : sG} {S A : sS} (C0 : s_C p s m args meth c b6_isAnyLocked 2 R6 (some .boolean) D aC) (hB : s_B D aC ad X (s_N ad X) S A G s.heap s.heap []) (hX : xC X G)   : ∀ (r : Nat) (j1 : Nat) (hj : j1 ≤ 16) (hr3 : 16 < j1 + r) {ls : Array Slot} (hl : lv_has ls 2 [(0, .ref (ad 0 0)), (1, .int (nI j1))]) {o : Int32} (hO : V6_isAnyLocked_2 G  r S A j1 = o), W p l e (rmk 1) s m args below meth c s.heap [] 0 0 (MQ below (s_Qp o) args s 0 0 (fun _ => False)) (F0 m 2 ls []) := by
  obtain ⟨hx, hb, hml, hown, hw, hK, hr, hlocks⟩ := id C0
  intro r
  induction r with
  | zero =>
    intro j1 hj hr3 ls hl o hO
    exact absurd hr3 (by omega)
  | succ r ih =>
    intro j1 hj hr3 ls hl o hO
    rw [V6_isAnyLocked_2] at hO
    refine lv_iload_n hx hb d6_isAnyLocked_2 rfl (lv_at hl 1 rfl) ?_
    refine lv_bipush (v := 16) hx hb d6_isAnyLocked_3 (by decide) ?_
    refine lv_icmp_ge (tgt := 40) hx hb d6_isAnyLocked_5 (by decide) (fun c_1 => ?_) (fun c_1 => ?_)
    · refine lv_iconst (v := 0) hx hb d6_isAnyLocked_40 (by decide) ?_
      exact se_pz C0 (Or.inl rfl) (by rw [if_pos c_1] at hO; exact hO) d6_isAnyLocked_41
    · refine lv_aload_n hx hb d6_isAnyLocked_8 rfl (lv_at hl 0 rfl) ?_
      refine lv_iload_n hx hb d6_isAnyLocked_9 rfl (lv_at hl 1 rfl) ?_
      refine sr_vp C0 hB (m6_isUser hX (nI j1) ) (hX.1 0 (by decide)) cf_0 ml_6_83 im_6_isUser se_6_isUser in_6 cd_6_isUser hd6_isUser ⟨⟨rfl, rfl⟩, by decide, by decide⟩ ⟨Nat.zero_le _, Nat.zero_le _⟩ hl.1 rfl (Nat.le_of_ble_eq_true rfl) d6_isAnyLocked_10 ?_
      refine lv_if_eq (tgt := 34) hx hb d6_isAnyLocked_13 (by decide) (fun c_2 => ?_) (fun c_2 => ?_)
      · refine lv_iinc (v := nI (j1 + 1)) (lv' := [(1, .int (nI (j1 + 1))), (0, .ref (ad 0 0))]) hx hb d6_isAnyLocked_34 hl (k := 1) rfl (nI_1 j1) (by decide) rfl (fun ls hl => ?_)
        refine lv_goto (tgt := 2) hx hb d6_isAnyLocked_37 (by decide) ?_
        exact ih (j1 + 1) (by (have aj1 := nI_toInt (n := j1) (by omega)); (have kc_1 := nle_i c_1); (have l16 : (16 : Int32).toInt = 16 := rfl);  omega) (by (have aj1 := nI_toInt (n := j1) (by omega)); (have kc_1 := nle_i c_1); (have l16 : (16 : Int32).toInt = 16 := rfl);  omega) (lv_sub hl [1, 0] rfl) (by rw [if_neg c_1, if_pos c_2] at hO; exact hO)
      · refine lv_aload_n hx hb d6_isAnyLocked_16 rfl (lv_at hl 0 rfl) ?_
        refine sr_get (v := .ref (ad 1 0)) hx hb hw hown hK hB 0 (hX.1 0 (by decide)) cf_0 us6 (by decide) fl_6_11 (rfl) d6_isAnyLocked_17 ?_
        refine lv_iload_n hx hb d6_isAnyLocked_20 rfl (lv_at hl 1 rfl) ?_
        refine sr_aald (v := some j1) hx hb hK hB (hX.1 1 (by decide)) rfl rfl rfl (vp_in_nI (show j1 < 16 by (have aj1 := nI_toInt (n := j1) (by omega)); (have kc_1 := nle_i c_1); (have kc_2 := (isUser_t c_2).1); (have l16 : (16 : Int32).toInt = 16 := rfl);  omega) (by decide)) d6_isAnyLocked_21 (by rw [nI_clamp (show j1 < 2 ^ 31 by omega)]; exact (gu hX (i := j1) (by have q := (isUser_t c_2).2; rw [nI_clamp (by omega)] at q; exact q)).1) ?_
        refine lv_aload_n hx hb d6_isAnyLocked_22 rfl (lv_at hl 0 rfl) ?_
        refine sr_get (v := .int (S 0 0 8)) hx hb hw hown hK hB 8 (hX.1 0 (by decide)) cf_0 us6 (by decide) fl_6_54 (rfl) d6_isAnyLocked_23 ?_
        refine sr_vp C0 hB (m5_isLocked hX j1 (S 0 0 8) (gu hX (i := j1) (by have q := (isUser_t c_2).2; rw [nI_clamp (by omega)] at q; exact q)).2) (gu hX (i := j1) (by have q := (isUser_t c_2).2; rw [nI_clamp (by omega)] at q; exact q)).2 cf_12 ml_6_278 im_5_isLocked se_5_isLocked in_5 cd_5_isLocked hd5_isLocked ⟨⟨rfl, rfl⟩, by decide, by decide⟩ ⟨Nat.zero_le _, Nat.zero_le _⟩ hl.1 rfl (Nat.le_of_ble_eq_true rfl) d6_isAnyLocked_26 ?_
        refine lv_if_eq (tgt := 34) hx hb d6_isAnyLocked_29 (by decide) (fun c_3 => ?_) (fun c_3 => ?_)
        · refine lv_iinc (v := nI (j1 + 1)) (lv' := [(1, .int (nI (j1 + 1))), (0, .ref (ad 0 0))]) hx hb d6_isAnyLocked_34 hl (k := 1) rfl (nI_1 j1) (by decide) rfl (fun ls hl => ?_)
          refine lv_goto (tgt := 2) hx hb d6_isAnyLocked_37 (by decide) ?_
          exact ih (j1 + 1) (by (have aj1 := nI_toInt (n := j1) (by omega)); (have kc_1 := nle_i c_1); (have kc_2 := (isUser_t c_2).1); (have l16 : (16 : Int32).toInt = 16 := rfl);  omega) (by (have aj1 := nI_toInt (n := j1) (by omega)); (have kc_1 := nle_i c_1); (have kc_2 := (isUser_t c_2).1); (have l16 : (16 : Int32).toInt = 16 := rfl);  omega) (lv_sub hl [1, 0] rfl) (by rw [if_neg c_1, if_neg c_2, if_pos c_3] at hO; exact hO)
        · refine lv_iconst (v := 1) hx hb d6_isAnyLocked_32 (by decide) ?_
          exact se_pz C0 (Or.inr rfl) (by rw [if_neg c_1, if_neg c_2, if_neg c_3] at hO; exact hO) d6_isAnyLocked_33
set_option maxRecDepth 100000 in
set_option maxHeartbeats 4000000 in
theorem k6_isAnyLocked_0 {p : Program} {l : Launch} {e : Env} {s : State} {m : MethodId} {args : Array Value} {below : List Frame} {meth : Method} {c : Code} {D : va_G} {aC : Nat → ClassId} {ad : Nat → Nat → Nat} {X : Nat → Nat → Prop} {S A : sS} {G : sG} (C0 : s_C p s m args meth c b6_isAnyLocked 2 R6 (some .boolean) D aC) (hB : s_B D aC ad X (s_N ad X) S A G s.heap s.heap []) (hX : xC X G)   {ls : Array Slot} (hl : lv_has ls 2 [(0, .ref (ad 0 0))]) {o : Int32} (hO : V6_isAnyLocked S A G  = o) : W p l e (rmk 1) s m args below meth c s.heap [] 0 0 (MQ below (s_Qp o) args s 0 0 (fun _ => False)) (F0 m 0 ls []) := by
  obtain ⟨hx, hb, hml, hown, hw, hK, hr, hlocks⟩ := id C0
  unfold V6_isAnyLocked at hO
  refine lv_iconst (v := 0) hx hb d6_isAnyLocked_0 (by decide) ?_
  refine lv_istore_n (lv' := [(1, .int 0), (0, .ref (ad 0 0))]) hx hb d6_isAnyLocked_1 rfl hl (by decide) rfl (fun ls hl => ?_)
  exact k6_isAnyLocked_2 C0 hB hX   17 0 (by  omega) (by  omega) (lv_sub hl [1, 0] rfl) (hO)
theorem hd6_isAnyLocked : y6_isAnyLocked.cls = R6 ∧ y6_isAnyLocked.cls ≠ "java/lang/invoke/MethodHandle" ∧ y6_isAnyLocked.cls ≠ "java/lang/invoke/VarHandle" ∧ (parseMethodDescriptor y6_isAnyLocked.desc).map (fun d => d.parameters.length) = some 0 := ⟨rfl, by decide, by decide, by decide +kernel⟩
theorem m6_isAnyLocked {l : Launch} {D : va_G} {aC : Nat → ClassId} {ad : Nat → Nat → Nat} {X : Nat → Nat → Prop} {S A : sS} {G : sG} (hX : xC X G)   : Met l y6_isAnyLocked (.code y6_isAnyLocked b6_isAnyLocked 2 (some .boolean) :: wall) (rmk 1) (s_Pc [.ref (ad 0 0)] D aC ad X S A G) (s_Qp (V6_isAnyLocked S A G )) 0 0 (fun _ => False) :=
  s_met (by decide) rfl (Nat.le_of_ble_eq_true rfl) (fun p e s m args below meth c C0 hB ls hl => k6_isAnyLocked_0 C0 hB hX   hl rfl)

def V6_isAnyLotExpired_2 (G : sG)  : Nat → sS → sS → Nat → Int32
  | 0, S, A, _ => 0
  | r + 1, S, A, j1 => if 64 ≤ nI j1 then 0 else if V0_firstGiven S A G j1 (S 0 0 8) ≤ 0 then V6_isAnyLotExpired_2 G  r S A (j1 + 1) else 1
def V6_isAnyLotExpired (S A : sS) (G : sG)  : Int32 := V6_isAnyLotExpired_2 G  65 S A 0
set_option maxRecDepth 100000 in
set_option maxHeartbeats 4000000 in
theorem k6_isAnyLotExpired_2 {p : Program} {l : Launch} {e : Env} {s : State} {m : MethodId} {args : Array Value} {below : List Frame} {meth : Method} {c : Code} {D : va_G} {aC : Nat → ClassId} {ad : Nat → Nat → Nat} {X : Nat → Nat → Prop} {G : sG} {S A : sS} (C0 : s_C p s m args meth c b6_isAnyLotExpired 2 R6 (some .boolean) D aC) (hB : s_B D aC ad X (s_N ad X) S A G s.heap s.heap []) (hX : xC X G)  (hlo : ∀ i, i < 64 → 0 ≤ (S 15 i 3).toInt ∧ (S 15 i 3).toInt ≤ 6) : ∀ (r : Nat) (j1 : Nat) (hj : j1 ≤ 64) (hr3 : 64 < j1 + r) {ls : Array Slot} (hl : lv_has ls 2 [(0, .ref (ad 0 0)), (1, .int (nI j1))]) {o : Int32} (hO : V6_isAnyLotExpired_2 G  r S A j1 = o), W p l e (rmk 1) s m args below meth c s.heap [] 0 0 (MQ below (s_Qp o) args s 0 0 (fun _ => False)) (F0 m 2 ls []) := by
  obtain ⟨hx, hb, hml, hown, hw, hK, hr, hlocks⟩ := id C0
  intro r
  induction r with
  | zero =>
    intro j1 hj hr3 ls hl o hO
    exact absurd hr3 (by omega)
  | succ r ih =>
    intro j1 hj hr3 ls hl o hO
    rw [V6_isAnyLotExpired_2] at hO
    refine lv_iload_n hx hb d6_isAnyLotExpired_2 rfl (lv_at hl 1 rfl) ?_
    refine lv_bipush (v := 64) hx hb d6_isAnyLotExpired_3 (by decide) ?_
    refine lv_icmp_ge (tgt := 32) hx hb d6_isAnyLotExpired_5 (by decide) (fun c_1 => ?_) (fun c_1 => ?_)
    · refine lv_iconst (v := 0) hx hb d6_isAnyLotExpired_32 (by decide) ?_
      exact se_pz C0 (Or.inl rfl) (by rw [if_pos c_1] at hO; exact hO) d6_isAnyLotExpired_33
    · refine lv_aload_n hx hb d6_isAnyLotExpired_8 rfl (lv_at hl 0 rfl) ?_
      refine sr_get (v := .ref (ad 3 0)) hx hb hw hown hK hB 2 (hX.1 0 (by decide)) cf_0 us6 (by decide) fl_6_23 (rfl) d6_isAnyLotExpired_9 ?_
      refine lv_iload_n hx hb d6_isAnyLotExpired_12 rfl (lv_at hl 1 rfl) ?_
      refine sr_aald (v := some j1) hx hb hK hB (hX.1 3 (by decide)) rfl rfl rfl (vp_in_nI (show j1 < 64 by (have aj1 := nI_toInt (n := j1) (by omega)); (have kc_1 := nle_i c_1); (have l64 : (64 : Int32).toInt = 64 := rfl);  omega) (by decide)) d6_isAnyLotExpired_13 (by rw [nI_clamp (show j1 < 2 ^ 31 by omega)]; exact gb hX (show j1 < 64 by (have aj1 := nI_toInt (n := j1) (by omega)); (have kc_1 := nle_i c_1); (have l64 : (64 : Int32).toInt = 64 := rfl);  omega)) ?_
      refine lv_aload_n hx hb d6_isAnyLotExpired_14 rfl (lv_at hl 0 rfl) ?_
      refine sr_get (v := .int (S 0 0 8)) hx hb hw hown hK hB 8 (hX.1 0 (by decide)) cf_0 us6 (by decide) fl_6_54 (rfl) d6_isAnyLotExpired_15 ?_
      refine sr_vp C0 hB (m0_firstGiven hX j1 (S 0 0 8) (by (have aj1 := nI_toInt (n := j1) (by omega)); (have kc_1 := nle_i c_1); (have l64 : (64 : Int32).toInt = 64 := rfl);  omega) (hlo _ (by (have aj1 := nI_toInt (n := j1) (by omega)); (have kc_1 := nle_i c_1); (have l64 : (64 : Int32).toInt = 64 := rfl);  omega))) (hX.2.2.1 (j1) (show j1 < 64 by (have aj1 := nI_toInt (n := j1) (by omega)); (have kc_1 := nle_i c_1); (have l64 : (64 : Int32).toInt = 64 := rfl);  omega)).1 cf_15 ml_6_290 im_0_firstGiven se_0_firstGiven in_0 cd_0_firstGiven hd0_firstGiven ⟨⟨rfl, rfl⟩, by decide, by decide⟩ ⟨Nat.zero_le _, Nat.zero_le _⟩ hl.1 rfl (Nat.le_of_ble_eq_true rfl) d6_isAnyLotExpired_18 ?_
      refine lv_if_le (tgt := 26) hx hb d6_isAnyLotExpired_21 (by decide) (fun c_2 => ?_) (fun c_2 => ?_)
      · refine lv_iinc (v := nI (j1 + 1)) (lv' := [(1, .int (nI (j1 + 1))), (0, .ref (ad 0 0))]) hx hb d6_isAnyLotExpired_26 hl (k := 1) rfl (nI_1 j1) (by decide) rfl (fun ls hl => ?_)
        refine lv_goto (tgt := 2) hx hb d6_isAnyLotExpired_29 (by decide) ?_
        exact ih (j1 + 1) (by (have aj1 := nI_toInt (n := j1) (by omega)); (have kc_1 := nle_i c_1); (have kc_2 := le_i c_2); (have l0 : (0 : Int32).toInt = 0 := rfl); (have l64 : (64 : Int32).toInt = 64 := rfl); (have l8 : (8 : Int32).toInt = 8 := rfl);  omega) (by (have aj1 := nI_toInt (n := j1) (by omega)); (have kc_1 := nle_i c_1); (have kc_2 := le_i c_2); (have l0 : (0 : Int32).toInt = 0 := rfl); (have l64 : (64 : Int32).toInt = 64 := rfl); (have l8 : (8 : Int32).toInt = 8 := rfl);  omega) (lv_sub hl [1, 0] rfl) (by rw [if_neg c_1, if_pos c_2] at hO; exact hO)
      · refine lv_iconst (v := 1) hx hb d6_isAnyLotExpired_24 (by decide) ?_
        exact se_pz C0 (Or.inr rfl) (by rw [if_neg c_1, if_neg c_2] at hO; exact hO) d6_isAnyLotExpired_25
set_option maxRecDepth 100000 in
set_option maxHeartbeats 4000000 in
theorem k6_isAnyLotExpired_0 {p : Program} {l : Launch} {e : Env} {s : State} {m : MethodId} {args : Array Value} {below : List Frame} {meth : Method} {c : Code} {D : va_G} {aC : Nat → ClassId} {ad : Nat → Nat → Nat} {X : Nat → Nat → Prop} {S A : sS} {G : sG} (C0 : s_C p s m args meth c b6_isAnyLotExpired 2 R6 (some .boolean) D aC) (hB : s_B D aC ad X (s_N ad X) S A G s.heap s.heap []) (hX : xC X G)  (hlo : ∀ i, i < 64 → 0 ≤ (S 15 i 3).toInt ∧ (S 15 i 3).toInt ≤ 6) {ls : Array Slot} (hl : lv_has ls 2 [(0, .ref (ad 0 0))]) {o : Int32} (hO : V6_isAnyLotExpired S A G  = o) : W p l e (rmk 1) s m args below meth c s.heap [] 0 0 (MQ below (s_Qp o) args s 0 0 (fun _ => False)) (F0 m 0 ls []) := by
  obtain ⟨hx, hb, hml, hown, hw, hK, hr, hlocks⟩ := id C0
  unfold V6_isAnyLotExpired at hO
  refine lv_iconst (v := 0) hx hb d6_isAnyLotExpired_0 (by decide) ?_
  refine lv_istore_n (lv' := [(1, .int 0), (0, .ref (ad 0 0))]) hx hb d6_isAnyLotExpired_1 rfl hl (by decide) rfl (fun ls hl => ?_)
  exact k6_isAnyLotExpired_2 C0 hB hX  hlo 65 0 (by  omega) (by  omega) (lv_sub hl [1, 0] rfl) (hO)
theorem hd6_isAnyLotExpired : y6_isAnyLotExpired.cls = R6 ∧ y6_isAnyLotExpired.cls ≠ "java/lang/invoke/MethodHandle" ∧ y6_isAnyLotExpired.cls ≠ "java/lang/invoke/VarHandle" ∧ (parseMethodDescriptor y6_isAnyLotExpired.desc).map (fun d => d.parameters.length) = some 0 := ⟨rfl, by decide, by decide, by decide +kernel⟩
theorem m6_isAnyLotExpired {l : Launch} {D : va_G} {aC : Nat → ClassId} {ad : Nat → Nat → Nat} {X : Nat → Nat → Prop} {S A : sS} {G : sG} (hX : xC X G)  (hlo : ∀ i, i < 64 → 0 ≤ (S 15 i 3).toInt ∧ (S 15 i 3).toInt ≤ 6) : Met l y6_isAnyLotExpired (.code y6_isAnyLotExpired b6_isAnyLotExpired 2 (some .boolean) :: wall) (rmk 1) (s_Pc [.ref (ad 0 0)] D aC ad X S A G) (s_Qp (V6_isAnyLotExpired S A G )) 0 0 (fun _ => False) :=
  s_met (by decide) rfl (Nat.le_of_ble_eq_true rfl) (fun p e s m args below meth c C0 hB ls hl => k6_isAnyLotExpired_0 C0 hB hX  hlo hl rfl)

def V6_isMismatch (S A : sS) (G : sG) (b : Nat) : Int32 := if S 15 b 4 = 0 then if V6_isControlled S A G (S 15 b 2) = 0 then 0 else if S 15 b 5 = 0 then 1 else 0 else 1
set_option maxRecDepth 100000 in
set_option maxHeartbeats 4000000 in
theorem k6_isMismatch_0 {p : Program} {l : Launch} {e : Env} {s : State} {m : MethodId} {args : Array Value} {below : List Frame} {meth : Method} {c : Code} {D : va_G} {aC : Nat → ClassId} {ad : Nat → Nat → Nat} {X : Nat → Nat → Prop} {S A : sS} {G : sG} (C0 : s_C p s m args meth c b6_isMismatch 2 R6 (some .boolean) D aC) (hB : s_B D aC ad X (s_N ad X) S A G s.heap s.heap []) (hX : xC X G) (b : Nat) (hbn : b < 64) {ls : Array Slot} (hl : lv_has ls 2 [(0, .ref (ad 0 0)), (1, .ref (ad 15 b))]) {o : Int32} (hO : V6_isMismatch S A G b = o) : W p l e (rmk 2) s m args below meth c s.heap [] 0 0 (MQ below (s_Qp o) args s 0 0 (fun _ => False)) (F0 m 0 ls []) := by
  obtain ⟨hx, hb, hml, hown, hw, hK, hr, hlocks⟩ := id C0
  unfold V6_isMismatch at hO
  refine lv_aload_n hx hb d6_isMismatch_0 rfl (lv_at hl 1 rfl) ?_
  refine sr_get (v := .int (S 15 b 4)) hx hb hw hown hK hB 4 (hX.2.2.1 b hbn).1 cf_15 us0 (by decide) fl_6_174 (rfl) d6_isMismatch_1 ?_
  refine lv_if_ne (tgt := 25) hx hb d6_isMismatch_4 (by decide) (fun c_1 => ?_) (fun c_1 => ?_)
  · refine lv_iconst (v := 1) hx hb d6_isMismatch_25 (by decide) ?_
    refine lv_goto (tgt := 30) hx hb d6_isMismatch_26 (by decide) ?_
    exact se_pz C0 (Or.inr rfl) (by rw [if_neg c_1] at hO; exact hO) d6_isMismatch_30
  · refine lv_aload_n hx hb d6_isMismatch_7 rfl (lv_at hl 0 rfl) ?_
    refine lv_aload_n hx hb d6_isMismatch_8 rfl (lv_at hl 1 rfl) ?_
    refine sr_get (v := .int (S 15 b 2)) hx hb hw hown hK hB 2 (hX.2.2.1 b hbn).1 cf_15 us0 (by decide) fl_6_155 (rfl) d6_isMismatch_9 ?_
    refine sr_vp C0 hB (m6_isControlled hX (S 15 b 2) ) (hX.1 0 (by decide)) cf_0 ml_6_156 im_6_isControlled se_6_isControlled in_6 cd_6_isControlled hd6_isControlled ⟨⟨rfl, rfl⟩, by decide, by decide⟩ ⟨Nat.zero_le _, Nat.zero_le _⟩ hl.1 rfl (Nat.le_of_ble_eq_true rfl) d6_isMismatch_12 ?_
    refine lv_if_eq (tgt := 29) hx hb d6_isMismatch_15 (by decide) (fun c_2 => ?_) (fun c_2 => ?_)
    · refine lv_iconst (v := 0) hx hb d6_isMismatch_29 (by decide) ?_
      exact se_pz C0 (Or.inl rfl) (by rw [if_pos c_1, if_pos c_2] at hO; exact hO) d6_isMismatch_30
    · refine lv_aload_n hx hb d6_isMismatch_18 rfl (lv_at hl 1 rfl) ?_
      refine sr_get (v := .int (S 15 b 5)) hx hb hw hown hK hB 5 (hX.2.2.1 b hbn).1 cf_15 us0 (by decide) fl_6_229 (rfl) d6_isMismatch_19 ?_
      refine lv_if_ne (tgt := 29) hx hb d6_isMismatch_22 (by decide) (fun c_3 => ?_) (fun c_3 => ?_)
      · refine lv_iconst (v := 0) hx hb d6_isMismatch_29 (by decide) ?_
        exact se_pz C0 (Or.inl rfl) (by rw [if_pos c_1, if_neg c_2, if_neg c_3] at hO; exact hO) d6_isMismatch_30
      · refine lv_iconst (v := 1) hx hb d6_isMismatch_25 (by decide) ?_
        refine lv_goto (tgt := 30) hx hb d6_isMismatch_26 (by decide) ?_
        exact se_pz C0 (Or.inr rfl) (by rw [if_pos c_1, if_neg c_2, if_pos c_3] at hO; exact hO) d6_isMismatch_30
theorem z6_isMismatch (S A : sS) (G : sG) (b : Nat) : V6_isMismatch S A G b = 0 ∨ V6_isMismatch S A G b = 1 := by
  unfold V6_isMismatch
  (repeat' split) <;> first | exact Or.inl rfl | exact Or.inr rfl | apply z6_isControlled
theorem hd6_isMismatch : y6_isMismatch.cls = R6 ∧ y6_isMismatch.cls ≠ "java/lang/invoke/MethodHandle" ∧ y6_isMismatch.cls ≠ "java/lang/invoke/VarHandle" ∧ (parseMethodDescriptor y6_isMismatch.desc).map (fun d => d.parameters.length) = some 1 := ⟨rfl, by decide, by decide, by decide +kernel⟩
theorem m6_isMismatch {l : Launch} {D : va_G} {aC : Nat → ClassId} {ad : Nat → Nat → Nat} {X : Nat → Nat → Prop} {S A : sS} {G : sG} (hX : xC X G) (b : Nat) (hbn : b < 64) : Met l y6_isMismatch (.code y6_isMismatch b6_isMismatch 2 (some .boolean) :: wall) (rmk 2) (s_Pc [.ref (ad 0 0), .ref (ad 15 b)] D aC ad X S A G) (s_Qp (V6_isMismatch S A G b)) 0 0 (fun _ => False) :=
  s_met (by decide) rfl (Nat.le_of_ble_eq_true rfl) (fun p e s m args below meth c C0 hB ls hl => k6_isMismatch_0 C0 hB hX b hbn hl rfl)

def V6_refusalWithoutStep (S A : sS) (G : sG) (x1 : Int32) : Int32 := if S 0 0 9 = (-1) then (-2) else if V6_isHandlerIn S A G  = 0 then (-3) else if V4_isOpen S A G  = 0 then if x1 = 0 then if S 6 0 1 < 290 then 0 else (-8) else if S 0 0 11 = (-1) then (-5) else if S 6 0 1 < 290 then 0 else (-8) else (-4)
set_option maxRecDepth 100000 in
set_option maxHeartbeats 4000000 in
theorem k6_refusalWithoutStep_0 {p : Program} {l : Launch} {e : Env} {s : State} {m : MethodId} {args : Array Value} {below : List Frame} {meth : Method} {c : Code} {D : va_G} {aC : Nat → ClassId} {ad : Nat → Nat → Nat} {X : Nat → Nat → Prop} {S A : sS} {G : sG} (C0 : s_C p s m args meth c b6_refusalWithoutStep 2 R6 (some .int) D aC) (hB : s_B D aC ad X (s_N ad X) S A G s.heap s.heap []) (hX : xC X G) (x1 : Int32)  {ls : Array Slot} (hl : lv_has ls 2 [(0, .ref (ad 0 0)), (1, .int x1)]) {o : Int32} (hO : V6_refusalWithoutStep S A G x1 = o) : W p l e (rmk 3) s m args below meth c s.heap [] 0 0 (MQ below (s_Qp o) args s 0 0 (fun _ => False)) (F0 m 0 ls []) := by
  obtain ⟨hx, hb, hml, hown, hw, hK, hr, hlocks⟩ := id C0
  unfold V6_refusalWithoutStep at hO
  refine lv_aload_n hx hb d6_refusalWithoutStep_0 rfl (lv_at hl 0 rfl) ?_
  refine sr_get (v := .int (S 0 0 9)) hx hb hw hown hK hB 9 (hX.1 0 (by decide)) cf_0 us6 (by decide) fl_6_58 (rfl) d6_refusalWithoutStep_1 ?_
  refine lv_iconst (v := (-1)) hx hb d6_refusalWithoutStep_4 (by decide) ?_
  refine lv_icmp_ne (tgt := 11) hx hb d6_refusalWithoutStep_5 (by decide) (fun c_1 => ?_) (fun c_1 => ?_)
  · refine lv_aload_n hx hb d6_refusalWithoutStep_11 rfl (lv_at hl 0 rfl) ?_
    refine sr_vp C0 hB (m6_isHandlerIn hX  ) (hX.1 0 (by decide)) cf_0 ml_6_130 im_6_isHandlerIn se_6_isHandlerIn in_6 cd_6_isHandlerIn hd6_isHandlerIn ⟨⟨rfl, rfl⟩, by decide, by decide⟩ ⟨Nat.zero_le _, Nat.zero_le _⟩ hl.1 rfl (Nat.le_of_ble_eq_true rfl) d6_refusalWithoutStep_12 ?_
    refine lv_if_ne (tgt := 21) hx hb d6_refusalWithoutStep_15 (by decide) (fun c_2 => ?_) (fun c_2 => ?_)
    · refine lv_aload_n hx hb d6_refusalWithoutStep_21 rfl (lv_at hl 0 rfl) ?_
      refine sr_get (v := .ref (ad 5 0)) hx hb hw hown hK hB 4 (hX.1 0 (by decide)) cf_0 us6 (by decide) fl_6_36 (rfl) d6_refusalWithoutStep_22 ?_
      refine sr_vp C0 hB (m4_isOpen hX  ) (hX.1 5 (by decide)) cf_5 ml_6_87 im_4_isOpen se_4_isOpen in_4 cd_4_isOpen hd4_isOpen ⟨⟨rfl, rfl⟩, by decide, by decide⟩ ⟨Nat.zero_le _, Nat.zero_le _⟩ hl.1 rfl (Nat.le_of_ble_eq_true rfl) d6_refusalWithoutStep_25 ?_
      refine lv_if_eq (tgt := 34) hx hb d6_refusalWithoutStep_28 (by decide) (fun c_3 => ?_) (fun c_3 => ?_)
      · refine lv_iload_n hx hb d6_refusalWithoutStep_34 rfl (lv_at hl 1 rfl) ?_
        refine lv_if_eq (tgt := 49) hx hb d6_refusalWithoutStep_35 (by decide) (fun c_4 => ?_) (fun c_4 => ?_)
        · refine lv_aload_n hx hb d6_refusalWithoutStep_49 rfl (lv_at hl 0 rfl) ?_
          refine sr_get (v := .ref (ad 6 0)) hx hb hw hown hK hB 5 (hX.1 0 (by decide)) cf_0 us6 (by decide) fl_6_43 (rfl) d6_refusalWithoutStep_50 ?_
          refine sr_get (v := .int (S 6 0 1)) hx hb hw hown hK hB 1 (hX.1 6 (by decide)) cf_6 us2 (by decide) fl_6_146 (rfl) d6_refusalWithoutStep_53 ?_
          refine lv_sipush (v := 290) hx hb d6_refusalWithoutStep_56 (by decide) ?_
          refine lv_icmp_lt (tgt := 67) hx hb d6_refusalWithoutStep_59 (by decide) (fun c_5 => ?_) (fun c_5 => ?_)
          · refine lv_iconst (v := 0) hx hb d6_refusalWithoutStep_67 (by decide) ?_
            exact se_pi C0 (by rw [if_neg c_1, if_neg c_2, if_pos c_3, if_pos c_4, if_pos c_5] at hO; exact hO) d6_refusalWithoutStep_68
          · refine lv_bipush (v := (-8)) hx hb d6_refusalWithoutStep_62 (by decide) ?_
            refine lv_goto (tgt := 68) hx hb d6_refusalWithoutStep_64 (by decide) ?_
            exact se_pi C0 (by rw [if_neg c_1, if_neg c_2, if_pos c_3, if_pos c_4, if_neg c_5] at hO; exact hO) d6_refusalWithoutStep_68
        · refine lv_aload_n hx hb d6_refusalWithoutStep_38 rfl (lv_at hl 0 rfl) ?_
          refine sr_get (v := .int (S 0 0 11)) hx hb hw hown hK hB 11 (hX.1 0 (by decide)) cf_0 us6 (by decide) fl_6_64 (rfl) d6_refusalWithoutStep_39 ?_
          refine lv_iconst (v := (-1)) hx hb d6_refusalWithoutStep_42 (by decide) ?_
          refine lv_icmp_ne (tgt := 49) hx hb d6_refusalWithoutStep_43 (by decide) (fun c_6 => ?_) (fun c_6 => ?_)
          · refine lv_aload_n hx hb d6_refusalWithoutStep_49 rfl (lv_at hl 0 rfl) ?_
            refine sr_get (v := .ref (ad 6 0)) hx hb hw hown hK hB 5 (hX.1 0 (by decide)) cf_0 us6 (by decide) fl_6_43 (rfl) d6_refusalWithoutStep_50 ?_
            refine sr_get (v := .int (S 6 0 1)) hx hb hw hown hK hB 1 (hX.1 6 (by decide)) cf_6 us2 (by decide) fl_6_146 (rfl) d6_refusalWithoutStep_53 ?_
            refine lv_sipush (v := 290) hx hb d6_refusalWithoutStep_56 (by decide) ?_
            refine lv_icmp_lt (tgt := 67) hx hb d6_refusalWithoutStep_59 (by decide) (fun c_7 => ?_) (fun c_7 => ?_)
            · refine lv_iconst (v := 0) hx hb d6_refusalWithoutStep_67 (by decide) ?_
              exact se_pi C0 (by rw [if_neg c_1, if_neg c_2, if_pos c_3, if_neg c_4, if_neg c_6, if_pos c_7] at hO; exact hO) d6_refusalWithoutStep_68
            · refine lv_bipush (v := (-8)) hx hb d6_refusalWithoutStep_62 (by decide) ?_
              refine lv_goto (tgt := 68) hx hb d6_refusalWithoutStep_64 (by decide) ?_
              exact se_pi C0 (by rw [if_neg c_1, if_neg c_2, if_pos c_3, if_neg c_4, if_neg c_6, if_neg c_7] at hO; exact hO) d6_refusalWithoutStep_68
          · refine lv_bipush (v := (-5)) hx hb d6_refusalWithoutStep_46 (by decide) ?_
            exact se_pi C0 (by rw [if_neg c_1, if_neg c_2, if_pos c_3, if_neg c_4, if_pos c_6] at hO; exact hO) d6_refusalWithoutStep_48
      · refine lv_bipush (v := (-4)) hx hb d6_refusalWithoutStep_31 (by decide) ?_
        exact se_pi C0 (by rw [if_neg c_1, if_neg c_2, if_neg c_3] at hO; exact hO) d6_refusalWithoutStep_33
    · refine lv_bipush (v := (-3)) hx hb d6_refusalWithoutStep_18 (by decide) ?_
      exact se_pi C0 (by rw [if_neg c_1, if_pos c_2] at hO; exact hO) d6_refusalWithoutStep_20
  · refine lv_bipush (v := (-2)) hx hb d6_refusalWithoutStep_8 (by decide) ?_
    exact se_pi C0 (by rw [if_pos c_1] at hO; exact hO) d6_refusalWithoutStep_10
theorem hd6_refusalWithoutStep : y6_refusalWithoutStep.cls = R6 ∧ y6_refusalWithoutStep.cls ≠ "java/lang/invoke/MethodHandle" ∧ y6_refusalWithoutStep.cls ≠ "java/lang/invoke/VarHandle" ∧ (parseMethodDescriptor y6_refusalWithoutStep.desc).map (fun d => d.parameters.length) = some 1 := ⟨rfl, by decide, by decide, by decide +kernel⟩
theorem m6_refusalWithoutStep {l : Launch} {D : va_G} {aC : Nat → ClassId} {ad : Nat → Nat → Nat} {X : Nat → Nat → Prop} {S A : sS} {G : sG} (hX : xC X G) (x1 : Int32)  : Met l y6_refusalWithoutStep (.code y6_refusalWithoutStep b6_refusalWithoutStep 2 (some .int) :: wall) (rmk 3) (s_Pc [.ref (ad 0 0), .int x1] D aC ad X S A G) (s_Qp (V6_refusalWithoutStep S A G x1)) 0 0 (fun _ => False) :=
  s_met (by decide) rfl (Nat.le_of_ble_eq_true rfl) (fun p e s m args below meth c C0 hB ls hl => k6_refusalWithoutStep_0 C0 hB hX x1  hl rfl)

def V6_binToTakeFrom_7 (G : sG) (x1 : Int32) : Nat → sS → sS → Int32 → Int32 → Nat → Int32
  | 0, S, A, _, _, _ => 0
  | r + 1, S, A, z2, z3, j4 => if 64 ≤ nI j4 then z2 else if S 15 j4 2 = x1 then if S 15 j4 3 ≤ V0_firstGiven S A G j4 (S 0 0 8) then V6_binToTakeFrom_7 G x1 r S A z2 z3 (j4 + 1) else if z2 = (-1) then V6_binToTakeFrom_7 G x1 r S A (nI j4) (A 16 j4 ((V0_firstGiven S A G j4 (S 0 0 8)).toNatClampNeg)) (j4 + 1) else if z3 ≤ A 16 j4 ((V0_firstGiven S A G j4 (S 0 0 8)).toNatClampNeg) then V6_binToTakeFrom_7 G x1 r S A z2 z3 (j4 + 1) else V6_binToTakeFrom_7 G x1 r S A (nI j4) (A 16 j4 ((V0_firstGiven S A G j4 (S 0 0 8)).toNatClampNeg)) (j4 + 1) else V6_binToTakeFrom_7 G x1 r S A z2 z3 (j4 + 1)
def V6_binToTakeFrom (S A : sS) (G : sG) (x1 : Int32) : Int32 := V6_binToTakeFrom_7 G x1 65 S A (-1) 0 0
set_option maxRecDepth 100000 in
set_option maxHeartbeats 4000000 in
theorem k6_binToTakeFrom_7 {p : Program} {l : Launch} {e : Env} {s : State} {m : MethodId} {args : Array Value} {below : List Frame} {meth : Method} {c : Code} {D : va_G} {aC : Nat → ClassId} {ad : Nat → Nat → Nat} {X : Nat → Nat → Prop} {G : sG} {S A : sS} (C0 : s_C p s m args meth c b6_binToTakeFrom 7 R6 (some .int) D aC) (hB : s_B D aC ad X (s_N ad X) S A G s.heap s.heap []) (hX : xC X G) (x1 : Int32) (hlo : ∀ i, i < 64 → 0 ≤ (S 15 i 3).toInt ∧ (S 15 i 3).toInt ≤ 6) : ∀ (r : Nat) (z2 : Int32) (z3 : Int32) (j4 : Nat) (hj : j4 ≤ 64) (hr3 : 64 < j4 + r) {ls : Array Slot} (hl : lv_has ls 7 [(0, .ref (ad 0 0)), (1, .int x1), (2, .int z2), (3, .int z3), (4, .int (nI j4))]) {o : Int32} (hO : V6_binToTakeFrom_7 G x1 r S A z2 z3 j4 = o), W p l e (rmk 1) s m args below meth c s.heap [] 0 0 (MQ below (s_Qp o) args s 0 0 (fun _ => False)) (F0 m 7 ls []) := by
  obtain ⟨hx, hb, hml, hown, hw, hK, hr, hlocks⟩ := id C0
  intro r
  induction r with
  | zero =>
    intro z2 z3 j4 hj hr3 ls hl o hO
    exact absurd hr3 (by omega)
  | succ r ih =>
    intro z2 z3 j4 hj hr3 ls hl o hO
    rw [V6_binToTakeFrom_7] at hO
    refine lv_iload hx hb d6_binToTakeFrom_7 (lv_at hl 4 rfl) ?_
    refine lv_bipush (v := 64) hx hb d6_binToTakeFrom_9 (by decide) ?_
    refine lv_icmp_ge (tgt := 97) hx hb d6_binToTakeFrom_11 (by decide) (fun c_1 => ?_) (fun c_1 => ?_)
    · refine lv_iload_n hx hb d6_binToTakeFrom_97 rfl (lv_at hl 2 rfl) ?_
      exact se_pi C0 (by rw [if_pos c_1] at hO; exact hO) d6_binToTakeFrom_98
    · refine lv_aload_n hx hb d6_binToTakeFrom_14 rfl (lv_at hl 0 rfl) ?_
      refine sr_get (v := .ref (ad 3 0)) hx hb hw hown hK hB 2 (hX.1 0 (by decide)) cf_0 us6 (by decide) fl_6_23 (rfl) d6_binToTakeFrom_15 ?_
      refine lv_iload hx hb d6_binToTakeFrom_18 (lv_at hl 4 rfl) ?_
      refine sr_aald (v := some j4) hx hb hK hB (hX.1 3 (by decide)) rfl rfl rfl (vp_in_nI (show j4 < 64 by (have aj4 := nI_toInt (n := j4) (by omega)); (have kc_1 := nle_i c_1); (have l64 : (64 : Int32).toInt = 64 := rfl);  omega) (by decide)) d6_binToTakeFrom_20 (by rw [nI_clamp (show j4 < 2 ^ 31 by omega)]; exact gb hX (show j4 < 64 by (have aj4 := nI_toInt (n := j4) (by omega)); (have kc_1 := nle_i c_1); (have l64 : (64 : Int32).toInt = 64 := rfl);  omega)) ?_
      refine lv_aload_n hx hb d6_binToTakeFrom_21 rfl (lv_at hl 0 rfl) ?_
      refine sr_get (v := .int (S 0 0 8)) hx hb hw hown hK hB 8 (hX.1 0 (by decide)) cf_0 us6 (by decide) fl_6_54 (rfl) d6_binToTakeFrom_22 ?_
      refine sr_vp C0 hB (m0_firstGiven hX j4 (S 0 0 8) (by (have aj4 := nI_toInt (n := j4) (by omega)); (have kc_1 := nle_i c_1); (have l64 : (64 : Int32).toInt = 64 := rfl);  omega) (hlo _ (by (have aj4 := nI_toInt (n := j4) (by omega)); (have kc_1 := nle_i c_1); (have l64 : (64 : Int32).toInt = 64 := rfl);  omega))) (hX.2.2.1 (j4) (show j4 < 64 by (have aj4 := nI_toInt (n := j4) (by omega)); (have kc_1 := nle_i c_1); (have l64 : (64 : Int32).toInt = 64 := rfl);  omega)).1 cf_15 ml_6_290 im_0_firstGiven se_0_firstGiven in_0 cd_0_firstGiven hd0_firstGiven ⟨⟨rfl, rfl⟩, by decide, by decide⟩ ⟨Nat.zero_le _, Nat.zero_le _⟩ hl.1 rfl (Nat.le_of_ble_eq_true rfl) d6_binToTakeFrom_25 ?_
      refine lv_istore (lv' := [(5, .int (V0_firstGiven S A G j4 (S 0 0 8))), (0, .ref (ad 0 0)), (1, .int x1), (2, .int z2), (3, .int z3), (4, .int (nI j4))]) hx hb d6_binToTakeFrom_28 hl (by decide) rfl (fun ls hl => ?_)
      refine lv_aload_n hx hb d6_binToTakeFrom_30 rfl (lv_at hl 1 rfl) ?_
      refine sr_get (v := .ref (ad 3 0)) hx hb hw hown hK hB 2 (hX.1 0 (by decide)) cf_0 us6 (by decide) fl_6_23 (rfl) d6_binToTakeFrom_31 ?_
      refine lv_iload hx hb d6_binToTakeFrom_34 (lv_at hl 5 rfl) ?_
      refine sr_aald (v := some j4) hx hb hK hB (hX.1 3 (by decide)) rfl rfl rfl (vp_in_nI (show j4 < 64 by (have aj4 := nI_toInt (n := j4) (by omega)); (have kc_1 := nle_i c_1); (have l64 : (64 : Int32).toInt = 64 := rfl);  omega) (by decide)) d6_binToTakeFrom_36 (by rw [nI_clamp (show j4 < 2 ^ 31 by omega)]; exact gb hX (show j4 < 64 by (have aj4 := nI_toInt (n := j4) (by omega)); (have kc_1 := nle_i c_1); (have l64 : (64 : Int32).toInt = 64 := rfl);  omega)) ?_
      refine sr_get (v := .int (S 15 j4 2)) hx hb hw hown hK hB 2 (hX.2.2.1 (j4) (show j4 < 64 by (have aj4 := nI_toInt (n := j4) (by omega)); (have kc_1 := nle_i c_1); (have l64 : (64 : Int32).toInt = 64 := rfl);  omega)).1 cf_15 us0 (by decide) fl_6_155 (rfl) d6_binToTakeFrom_37 ?_
      refine lv_iload_n hx hb d6_binToTakeFrom_40 rfl (lv_at hl 2 rfl) ?_
      refine lv_icmp_ne (tgt := 91) hx hb d6_binToTakeFrom_41 (by decide) (fun c_2 => ?_) (fun c_2 => ?_)
      · refine lv_iinc (v := nI (j4 + 1)) (lv' := [(4, .int (nI (j4 + 1))), (5, .int (V0_firstGiven S A G j4 (S 0 0 8))), (0, .ref (ad 0 0)), (1, .int x1), (2, .int z2), (3, .int z3)]) hx hb d6_binToTakeFrom_91 hl (k := 5) rfl (nI_1 j4) (by decide) rfl (fun ls hl => ?_)
        refine lv_goto (tgt := 7) hx hb d6_binToTakeFrom_94 (by decide) ?_
        exact ih z2 z3 (j4 + 1) (by (have aj4 := nI_toInt (n := j4) (by omega)); (have kc_1 := nle_i c_1); (have kc_2 := ne_i c_2); (have l15 : (15 : Int32).toInt = 15 := rfl); (have l2 : (2 : Int32).toInt = 2 := rfl); (have l64 : (64 : Int32).toInt = 64 := rfl);  omega) (by (have aj4 := nI_toInt (n := j4) (by omega)); (have kc_1 := nle_i c_1); (have kc_2 := ne_i c_2); (have l15 : (15 : Int32).toInt = 15 := rfl); (have l2 : (2 : Int32).toInt = 2 := rfl); (have l64 : (64 : Int32).toInt = 64 := rfl);  omega) (lv_sub hl [2, 3, 4, 5, 0] rfl) (by rw [if_neg c_1, if_neg c_2] at hO; exact hO)
      · refine lv_iload hx hb d6_binToTakeFrom_44 (lv_at hl 0 rfl) ?_
        refine lv_aload_n hx hb d6_binToTakeFrom_46 rfl (lv_at hl 1 rfl) ?_
        refine sr_get (v := .ref (ad 3 0)) hx hb hw hown hK hB 2 (hX.1 0 (by decide)) cf_0 us6 (by decide) fl_6_23 (rfl) d6_binToTakeFrom_47 ?_
        refine lv_iload hx hb d6_binToTakeFrom_50 (lv_at hl 5 rfl) ?_
        refine sr_aald (v := some j4) hx hb hK hB (hX.1 3 (by decide)) rfl rfl rfl (vp_in_nI (show j4 < 64 by (have aj4 := nI_toInt (n := j4) (by omega)); (have kc_1 := nle_i c_1); (have kc_2 := congrArg Int32.toInt c_2); (have l15 : (15 : Int32).toInt = 15 := rfl); (have l2 : (2 : Int32).toInt = 2 := rfl); (have l64 : (64 : Int32).toInt = 64 := rfl);  omega) (by decide)) d6_binToTakeFrom_52 (by rw [nI_clamp (show j4 < 2 ^ 31 by omega)]; exact gb hX (show j4 < 64 by (have aj4 := nI_toInt (n := j4) (by omega)); (have kc_1 := nle_i c_1); (have kc_2 := congrArg Int32.toInt c_2); (have l15 : (15 : Int32).toInt = 15 := rfl); (have l2 : (2 : Int32).toInt = 2 := rfl); (have l64 : (64 : Int32).toInt = 64 := rfl);  omega)) ?_
        refine sr_get (v := .int (S 15 j4 3)) hx hb hw hown hK hB 3 (hX.2.2.1 (j4) (show j4 < 64 by (have aj4 := nI_toInt (n := j4) (by omega)); (have kc_1 := nle_i c_1); (have kc_2 := congrArg Int32.toInt c_2); (have l15 : (15 : Int32).toInt = 15 := rfl); (have l2 : (2 : Int32).toInt = 2 := rfl); (have l64 : (64 : Int32).toInt = 64 := rfl);  omega)).1 cf_15 us0 (by decide) fl_6_149 (rfl) d6_binToTakeFrom_53 ?_
        refine lv_icmp_ge (tgt := 91) hx hb d6_binToTakeFrom_56 (by decide) (fun c_3 => ?_) (fun c_3 => ?_)
        · refine lv_iinc (v := nI (j4 + 1)) (lv' := [(4, .int (nI (j4 + 1))), (5, .int (V0_firstGiven S A G j4 (S 0 0 8))), (0, .ref (ad 0 0)), (1, .int x1), (2, .int z2), (3, .int z3)]) hx hb d6_binToTakeFrom_91 hl (k := 5) rfl (nI_1 j4) (by decide) rfl (fun ls hl => ?_)
          refine lv_goto (tgt := 7) hx hb d6_binToTakeFrom_94 (by decide) ?_
          exact ih z2 z3 (j4 + 1) (by (have aj4 := nI_toInt (n := j4) (by omega)); (have kc_1 := nle_i c_1); (have kc_2 := congrArg Int32.toInt c_2); (have kc_3 := le_i c_3); (have l0 : (0 : Int32).toInt = 0 := rfl); (have l15 : (15 : Int32).toInt = 15 := rfl); (have l2 : (2 : Int32).toInt = 2 := rfl); (have l3 : (3 : Int32).toInt = 3 := rfl); (have l64 : (64 : Int32).toInt = 64 := rfl); (have l8 : (8 : Int32).toInt = 8 := rfl);  omega) (by (have aj4 := nI_toInt (n := j4) (by omega)); (have kc_1 := nle_i c_1); (have kc_2 := congrArg Int32.toInt c_2); (have kc_3 := le_i c_3); (have l0 : (0 : Int32).toInt = 0 := rfl); (have l15 : (15 : Int32).toInt = 15 := rfl); (have l2 : (2 : Int32).toInt = 2 := rfl); (have l3 : (3 : Int32).toInt = 3 := rfl); (have l64 : (64 : Int32).toInt = 64 := rfl); (have l8 : (8 : Int32).toInt = 8 := rfl);  omega) (lv_sub hl [2, 3, 4, 5, 0] rfl) (by rw [if_neg c_1, if_pos c_2, if_pos c_3] at hO; exact hO)
        · refine lv_aload_n hx hb d6_binToTakeFrom_59 rfl (lv_at hl 1 rfl) ?_
          refine sr_get (v := .ref (ad 3 0)) hx hb hw hown hK hB 2 (hX.1 0 (by decide)) cf_0 us6 (by decide) fl_6_23 (rfl) d6_binToTakeFrom_60 ?_
          refine lv_iload hx hb d6_binToTakeFrom_63 (lv_at hl 5 rfl) ?_
          refine sr_aald (v := some j4) hx hb hK hB (hX.1 3 (by decide)) rfl rfl rfl (vp_in_nI (show j4 < 64 by (have aj4 := nI_toInt (n := j4) (by omega)); (have kc_1 := nle_i c_1); (have kc_2 := congrArg Int32.toInt c_2); (have kc_3 := nle_i c_3); (have l0 : (0 : Int32).toInt = 0 := rfl); (have l15 : (15 : Int32).toInt = 15 := rfl); (have l2 : (2 : Int32).toInt = 2 := rfl); (have l3 : (3 : Int32).toInt = 3 := rfl); (have l64 : (64 : Int32).toInt = 64 := rfl); (have l8 : (8 : Int32).toInt = 8 := rfl);  omega) (by decide)) d6_binToTakeFrom_65 (by rw [nI_clamp (show j4 < 2 ^ 31 by omega)]; exact gb hX (show j4 < 64 by (have aj4 := nI_toInt (n := j4) (by omega)); (have kc_1 := nle_i c_1); (have kc_2 := congrArg Int32.toInt c_2); (have kc_3 := nle_i c_3); (have l0 : (0 : Int32).toInt = 0 := rfl); (have l15 : (15 : Int32).toInt = 15 := rfl); (have l2 : (2 : Int32).toInt = 2 := rfl); (have l3 : (3 : Int32).toInt = 3 := rfl); (have l64 : (64 : Int32).toInt = 64 := rfl); (have l8 : (8 : Int32).toInt = 8 := rfl);  omega)) ?_
          refine sr_get (v := .ref (ad 16 j4)) hx hb hw hown hK hB 0 (hX.2.2.1 (j4) (show j4 < 64 by (have aj4 := nI_toInt (n := j4) (by omega)); (have kc_1 := nle_i c_1); (have kc_2 := congrArg Int32.toInt c_2); (have kc_3 := nle_i c_3); (have l0 : (0 : Int32).toInt = 0 := rfl); (have l15 : (15 : Int32).toInt = 15 := rfl); (have l2 : (2 : Int32).toInt = 2 := rfl); (have l3 : (3 : Int32).toInt = 3 := rfl); (have l64 : (64 : Int32).toInt = 64 := rfl); (have l8 : (8 : Int32).toInt = 8 := rfl);  omega)).1 cf_15 us0 (by decide) fl_6_233 (rfl) d6_binToTakeFrom_66 ?_
          refine lv_iload hx hb d6_binToTakeFrom_69 (lv_at hl 0 rfl) ?_
          refine sr_iald (v := A 16 j4 ((V0_firstGiven S A G j4 (S 0 0 8)).toNatClampNeg)) hx hb hK hB (hX.2.2.1 (j4) (show j4 < 64 by (have aj4 := nI_toInt (n := j4) (by omega)); (have kc_1 := nle_i c_1); (have kc_2 := congrArg Int32.toInt c_2); (have kc_3 := nle_i c_3); (have l0 : (0 : Int32).toInt = 0 := rfl); (have l15 : (15 : Int32).toInt = 15 := rfl); (have l2 : (2 : Int32).toInt = 2 := rfl); (have l3 : (3 : Int32).toInt = 3 := rfl); (have l64 : (64 : Int32).toInt = 64 := rfl); (have l8 : (8 : Int32).toInt = 8 := rfl);  omega)).2.1 rfl rfl (by (refine vp_in_iff.mpr ?_); (show 0 ≤ (V0_firstGiven S A G j4 (S 0 0 8)).toInt ∧ (V0_firstGiven S A G j4 (S 0 0 8)).toInt < ((6 : Nat) : Int)); (have aj4 := nI_toInt (n := j4) (by omega)); (have kc_1 := nle_i c_1); (have kc_2 := congrArg Int32.toInt c_2); (have kc_3 := nle_i c_3); (have l0 : (0 : Int32).toInt = 0 := rfl); (have l15 : (15 : Int32).toInt = 15 := rfl); (have l2 : (2 : Int32).toInt = 2 := rfl); (have l3 : (3 : Int32).toInt = 3 := rfl); (have l64 : (64 : Int32).toInt = 64 := rfl); (have l8 : (8 : Int32).toInt = 8 := rfl); (have qf := fg_in (S := S) (A := A) (G := G) (b := j4) (x1 := S 0 0 8) (hlo j4 (by omega))); (have ql := hlo j4 (by omega));  omega) d6_binToTakeFrom_71 (rfl) ?_
          refine lv_istore (lv' := [(6, .int (A 16 j4 ((V0_firstGiven S A G j4 (S 0 0 8)).toNatClampNeg))), (5, .int (V0_firstGiven S A G j4 (S 0 0 8))), (0, .ref (ad 0 0)), (1, .int x1), (2, .int z2), (3, .int z3), (4, .int (nI j4))]) hx hb d6_binToTakeFrom_72 hl (by decide) rfl (fun ls hl => ?_)
          refine lv_iload_n hx hb d6_binToTakeFrom_74 rfl (lv_at hl 4 rfl) ?_
          refine lv_iconst (v := (-1)) hx hb d6_binToTakeFrom_75 (by decide) ?_
          refine lv_icmp_eq (tgt := 85) hx hb d6_binToTakeFrom_76 (by decide) (fun c_4 => ?_) (fun c_4 => ?_)
          · refine lv_iload hx hb d6_binToTakeFrom_85 (lv_at hl 6 rfl) ?_
            refine lv_istore_n (lv' := [(2, .int (nI j4)), (6, .int (A 16 j4 ((V0_firstGiven S A G j4 (S 0 0 8)).toNatClampNeg))), (5, .int (V0_firstGiven S A G j4 (S 0 0 8))), (0, .ref (ad 0 0)), (1, .int x1), (3, .int z3), (4, .int (nI j4))]) hx hb d6_binToTakeFrom_87 rfl hl (by decide) rfl (fun ls hl => ?_)
            refine lv_iload hx hb d6_binToTakeFrom_88 (lv_at hl 1 rfl) ?_
            refine lv_istore_n (lv' := [(3, .int (A 16 j4 ((V0_firstGiven S A G j4 (S 0 0 8)).toNatClampNeg))), (2, .int (nI j4)), (6, .int (A 16 j4 ((V0_firstGiven S A G j4 (S 0 0 8)).toNatClampNeg))), (5, .int (V0_firstGiven S A G j4 (S 0 0 8))), (0, .ref (ad 0 0)), (1, .int x1), (4, .int (nI j4))]) hx hb d6_binToTakeFrom_90 rfl hl (by decide) rfl (fun ls hl => ?_)
            refine lv_iinc (v := nI (j4 + 1)) (lv' := [(4, .int (nI (j4 + 1))), (3, .int (A 16 j4 ((V0_firstGiven S A G j4 (S 0 0 8)).toNatClampNeg))), (2, .int (nI j4)), (6, .int (A 16 j4 ((V0_firstGiven S A G j4 (S 0 0 8)).toNatClampNeg))), (5, .int (V0_firstGiven S A G j4 (S 0 0 8))), (0, .ref (ad 0 0)), (1, .int x1)]) hx hb d6_binToTakeFrom_91 hl (k := 6) rfl (nI_1 j4) (by decide) rfl (fun ls hl => ?_)
            refine lv_goto (tgt := 7) hx hb d6_binToTakeFrom_94 (by decide) ?_
            exact ih (nI j4) (A 16 j4 ((V0_firstGiven S A G j4 (S 0 0 8)).toNatClampNeg)) (j4 + 1) (by (have aj4 := nI_toInt (n := j4) (by omega)); (have kc_1 := nle_i c_1); (have kc_2 := congrArg Int32.toInt c_2); (have kc_3 := nle_i c_3); (have l0 : (0 : Int32).toInt = 0 := rfl); (have l15 : (15 : Int32).toInt = 15 := rfl); (have l2 : (2 : Int32).toInt = 2 := rfl); (have l3 : (3 : Int32).toInt = 3 := rfl); (have l64 : (64 : Int32).toInt = 64 := rfl); (have l8 : (8 : Int32).toInt = 8 := rfl);  omega) (by (have aj4 := nI_toInt (n := j4) (by omega)); (have kc_1 := nle_i c_1); (have kc_2 := congrArg Int32.toInt c_2); (have kc_3 := nle_i c_3); (have l0 : (0 : Int32).toInt = 0 := rfl); (have l15 : (15 : Int32).toInt = 15 := rfl); (have l2 : (2 : Int32).toInt = 2 := rfl); (have l3 : (3 : Int32).toInt = 3 := rfl); (have l64 : (64 : Int32).toInt = 64 := rfl); (have l8 : (8 : Int32).toInt = 8 := rfl);  omega) (lv_sub hl [5, 6, 2, 1, 0] rfl) (by rw [if_neg c_1, if_pos c_2, if_neg c_3, if_pos c_4] at hO; exact hO)
          · refine lv_iload hx hb d6_binToTakeFrom_79 (lv_at hl 0 rfl) ?_
            refine lv_iload_n hx hb d6_binToTakeFrom_81 rfl (lv_at hl 5 rfl) ?_
            refine lv_icmp_ge (tgt := 91) hx hb d6_binToTakeFrom_82 (by decide) (fun c_5 => ?_) (fun c_5 => ?_)
            · refine lv_iinc (v := nI (j4 + 1)) (lv' := [(4, .int (nI (j4 + 1))), (6, .int (A 16 j4 ((V0_firstGiven S A G j4 (S 0 0 8)).toNatClampNeg))), (5, .int (V0_firstGiven S A G j4 (S 0 0 8))), (0, .ref (ad 0 0)), (1, .int x1), (2, .int z2), (3, .int z3)]) hx hb d6_binToTakeFrom_91 hl (k := 6) rfl (nI_1 j4) (by decide) rfl (fun ls hl => ?_)
              refine lv_goto (tgt := 7) hx hb d6_binToTakeFrom_94 (by decide) ?_
              exact ih z2 z3 (j4 + 1) (by (have aj4 := nI_toInt (n := j4) (by omega)); (have kc_1 := nle_i c_1); (have kc_2 := congrArg Int32.toInt c_2); (have kc_3 := nle_i c_3); (have kc_4 := ne_i c_4); (have kc_5 := le_i c_5); (have lm1 := ln1); (have l0 : (0 : Int32).toInt = 0 := rfl); (have l15 : (15 : Int32).toInt = 15 := rfl); (have l16 : (16 : Int32).toInt = 16 := rfl); (have l2 : (2 : Int32).toInt = 2 := rfl); (have l3 : (3 : Int32).toInt = 3 := rfl); (have l64 : (64 : Int32).toInt = 64 := rfl); (have l8 : (8 : Int32).toInt = 8 := rfl);  omega) (by (have aj4 := nI_toInt (n := j4) (by omega)); (have kc_1 := nle_i c_1); (have kc_2 := congrArg Int32.toInt c_2); (have kc_3 := nle_i c_3); (have kc_4 := ne_i c_4); (have kc_5 := le_i c_5); (have lm1 := ln1); (have l0 : (0 : Int32).toInt = 0 := rfl); (have l15 : (15 : Int32).toInt = 15 := rfl); (have l16 : (16 : Int32).toInt = 16 := rfl); (have l2 : (2 : Int32).toInt = 2 := rfl); (have l3 : (3 : Int32).toInt = 3 := rfl); (have l64 : (64 : Int32).toInt = 64 := rfl); (have l8 : (8 : Int32).toInt = 8 := rfl);  omega) (lv_sub hl [3, 4, 5, 6, 0] rfl) (by rw [if_neg c_1, if_pos c_2, if_neg c_3, if_neg c_4, if_pos c_5] at hO; exact hO)
            · refine lv_iload hx hb d6_binToTakeFrom_85 (lv_at hl 6 rfl) ?_
              refine lv_istore_n (lv' := [(2, .int (nI j4)), (6, .int (A 16 j4 ((V0_firstGiven S A G j4 (S 0 0 8)).toNatClampNeg))), (5, .int (V0_firstGiven S A G j4 (S 0 0 8))), (0, .ref (ad 0 0)), (1, .int x1), (3, .int z3), (4, .int (nI j4))]) hx hb d6_binToTakeFrom_87 rfl hl (by decide) rfl (fun ls hl => ?_)
              refine lv_iload hx hb d6_binToTakeFrom_88 (lv_at hl 1 rfl) ?_
              refine lv_istore_n (lv' := [(3, .int (A 16 j4 ((V0_firstGiven S A G j4 (S 0 0 8)).toNatClampNeg))), (2, .int (nI j4)), (6, .int (A 16 j4 ((V0_firstGiven S A G j4 (S 0 0 8)).toNatClampNeg))), (5, .int (V0_firstGiven S A G j4 (S 0 0 8))), (0, .ref (ad 0 0)), (1, .int x1), (4, .int (nI j4))]) hx hb d6_binToTakeFrom_90 rfl hl (by decide) rfl (fun ls hl => ?_)
              refine lv_iinc (v := nI (j4 + 1)) (lv' := [(4, .int (nI (j4 + 1))), (3, .int (A 16 j4 ((V0_firstGiven S A G j4 (S 0 0 8)).toNatClampNeg))), (2, .int (nI j4)), (6, .int (A 16 j4 ((V0_firstGiven S A G j4 (S 0 0 8)).toNatClampNeg))), (5, .int (V0_firstGiven S A G j4 (S 0 0 8))), (0, .ref (ad 0 0)), (1, .int x1)]) hx hb d6_binToTakeFrom_91 hl (k := 6) rfl (nI_1 j4) (by decide) rfl (fun ls hl => ?_)
              refine lv_goto (tgt := 7) hx hb d6_binToTakeFrom_94 (by decide) ?_
              exact ih (nI j4) (A 16 j4 ((V0_firstGiven S A G j4 (S 0 0 8)).toNatClampNeg)) (j4 + 1) (by (have aj4 := nI_toInt (n := j4) (by omega)); (have kc_1 := nle_i c_1); (have kc_2 := congrArg Int32.toInt c_2); (have kc_3 := nle_i c_3); (have kc_5 := nle_i c_5); (have l0 : (0 : Int32).toInt = 0 := rfl); (have l15 : (15 : Int32).toInt = 15 := rfl); (have l16 : (16 : Int32).toInt = 16 := rfl); (have l2 : (2 : Int32).toInt = 2 := rfl); (have l3 : (3 : Int32).toInt = 3 := rfl); (have l64 : (64 : Int32).toInt = 64 := rfl); (have l8 : (8 : Int32).toInt = 8 := rfl);  omega) (by (have aj4 := nI_toInt (n := j4) (by omega)); (have kc_1 := nle_i c_1); (have kc_2 := congrArg Int32.toInt c_2); (have kc_3 := nle_i c_3); (have kc_5 := nle_i c_5); (have l0 : (0 : Int32).toInt = 0 := rfl); (have l15 : (15 : Int32).toInt = 15 := rfl); (have l16 : (16 : Int32).toInt = 16 := rfl); (have l2 : (2 : Int32).toInt = 2 := rfl); (have l3 : (3 : Int32).toInt = 3 := rfl); (have l64 : (64 : Int32).toInt = 64 := rfl); (have l8 : (8 : Int32).toInt = 8 := rfl);  omega) (lv_sub hl [5, 6, 2, 1, 0] rfl) (by rw [if_neg c_1, if_pos c_2, if_neg c_3, if_neg c_4, if_neg c_5] at hO; exact hO)
set_option maxRecDepth 100000 in
set_option maxHeartbeats 4000000 in
theorem k6_binToTakeFrom_0 {p : Program} {l : Launch} {e : Env} {s : State} {m : MethodId} {args : Array Value} {below : List Frame} {meth : Method} {c : Code} {D : va_G} {aC : Nat → ClassId} {ad : Nat → Nat → Nat} {X : Nat → Nat → Prop} {S A : sS} {G : sG} (C0 : s_C p s m args meth c b6_binToTakeFrom 7 R6 (some .int) D aC) (hB : s_B D aC ad X (s_N ad X) S A G s.heap s.heap []) (hX : xC X G) (x1 : Int32) (hlo : ∀ i, i < 64 → 0 ≤ (S 15 i 3).toInt ∧ (S 15 i 3).toInt ≤ 6) {ls : Array Slot} (hl : lv_has ls 7 [(0, .ref (ad 0 0)), (1, .int x1)]) {o : Int32} (hO : V6_binToTakeFrom S A G x1 = o) : W p l e (rmk 1) s m args below meth c s.heap [] 0 0 (MQ below (s_Qp o) args s 0 0 (fun _ => False)) (F0 m 0 ls []) := by
  obtain ⟨hx, hb, hml, hown, hw, hK, hr, hlocks⟩ := id C0
  unfold V6_binToTakeFrom at hO
  refine lv_iconst (v := (-1)) hx hb d6_binToTakeFrom_0 (by decide) ?_
  refine lv_istore_n (lv' := [(2, .int (-1)), (0, .ref (ad 0 0)), (1, .int x1)]) hx hb d6_binToTakeFrom_1 rfl hl (by decide) rfl (fun ls hl => ?_)
  refine lv_iconst (v := 0) hx hb d6_binToTakeFrom_2 (by decide) ?_
  refine lv_istore_n (lv' := [(3, .int 0), (2, .int (-1)), (0, .ref (ad 0 0)), (1, .int x1)]) hx hb d6_binToTakeFrom_3 rfl hl (by decide) rfl (fun ls hl => ?_)
  refine lv_iconst (v := 0) hx hb d6_binToTakeFrom_4 (by decide) ?_
  refine lv_istore (lv' := [(4, .int 0), (3, .int 0), (2, .int (-1)), (0, .ref (ad 0 0)), (1, .int x1)]) hx hb d6_binToTakeFrom_5 hl (by decide) rfl (fun ls hl => ?_)
  exact k6_binToTakeFrom_7 C0 hB hX x1 hlo 65 (-1) 0 0 (by (have lx1 := ln1);  omega) (by (have lx1 := ln1);  omega) (lv_sub hl [3, 4, 2, 1, 0] rfl) (hO)
theorem hd6_binToTakeFrom : y6_binToTakeFrom.cls = R6 ∧ y6_binToTakeFrom.cls ≠ "java/lang/invoke/MethodHandle" ∧ y6_binToTakeFrom.cls ≠ "java/lang/invoke/VarHandle" ∧ (parseMethodDescriptor y6_binToTakeFrom.desc).map (fun d => d.parameters.length) = some 1 := ⟨rfl, by decide, by decide, by decide +kernel⟩
theorem m6_binToTakeFrom {l : Launch} {D : va_G} {aC : Nat → ClassId} {ad : Nat → Nat → Nat} {X : Nat → Nat → Prop} {S A : sS} {G : sG} (hX : xC X G) (x1 : Int32) (hlo : ∀ i, i < 64 → 0 ≤ (S 15 i 3).toInt ∧ (S 15 i 3).toInt ≤ 6) : Met l y6_binToTakeFrom (.code y6_binToTakeFrom b6_binToTakeFrom 7 (some .int) :: wall) (rmk 1) (s_Pc [.ref (ad 0 0), .int x1] D aC ad X S A G) (s_Qp (V6_binToTakeFrom S A G x1)) 0 0 (fun _ => False) :=
  s_met (by decide) rfl (Nat.le_of_ble_eq_true rfl) (fun p e s m args below meth c C0 hB ls hl => k6_binToTakeFrom_0 C0 hB hX x1 hlo hl rfl)
