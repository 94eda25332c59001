theorem takesAmount_t {S A : sS} {G : sG} (h : ¬ V4_takesAmount S A G = 0) : ¬ S 5 0 0 = -1 := by
  intro e
  apply h
  unfold V4_takesAmount V4_isOpen
  simp [e]
theorem takesCount_t {S A : sS} {G : sG} (h : ¬ V4_takesCount S A G = 0) : ¬ S 5 0 0 = -1 := by
  intro e
  apply h
  unfold V4_takesCount V4_isOpen
  simp [e]
theorem write_S {S A : sS} {G : sG} {x1 x2 x3 x4 x5 x6 : Int32} {f n k : Nat} (h : ¬ f = 6) : (O2_write S A G x1 x2 x3 x4 x5 x6).1 f n k = S f n k := by
  unfold O2_write
  (repeat' split) <;> first | rfl | exact up3_n (fun q => h q.1)
theorem take_S {S A : sS} {G : sG} {q : Nat} {x1 x2 : Int32} {f n k : Nat} (h : ¬ f = 14) : (O3_take S A G q x1 x2).1 f n k = S f n k := by
  unfold O3_take
  split
  · exact up3_n (fun q => h q.1)
  · show up3 (up3 (up3 _ _ _ _ _) _ _ _ _) _ _ _ _ f n k = _
    rw [up3_n (fun q => h q.1), up3_n (fun q => h q.1), up3_n (fun q => h q.1)]
theorem bt_64 {S A : sS} {G : sG} {x : Int32} (h : ¬ V6_binToTakeFrom S A G x = -1) : 0 ≤ (V6_binToTakeFrom S A G x).toInt ∧ (V6_binToTakeFrom S A G x).toInt < 64 := by
  have key : ∀ (r : Nat) (z2 z3 : Int32) (j : Nat), j + r ≤ 65 → (z2 = -1 ∨ (0 ≤ z2.toInt ∧ z2.toInt < 64)) → (V6_binToTakeFrom_7 G x r S A z2 z3 j = -1 ∨ (0 ≤ (V6_binToTakeFrom_7 G x r S A z2 z3 j).toInt ∧ (V6_binToTakeFrom_7 G x r S A z2 z3 j).toInt < 64)) := by
    intro r
    induction r with
    | zero => intro z2 z3 j _ _; exact Or.inr (by rw [V6_binToTakeFrom_7]; decide)
    | succ r ih =>
      intro z2 z3 j hj hz
      have a := nI_toInt (n := j) (by omega)
      have l64 : (64 : Int32).toInt = 64 := rfl
      rw [V6_binToTakeFrom_7]
      by_cases c : 64 ≤ nI j
      · rw [if_pos c]; exact hz
      · rw [if_neg c]
        have k := nle_i c
        (repeat' split) <;> first | exact ih _ _ _ (by omega) hz | exact ih _ _ _ (by omega) (Or.inr ⟨by omega, by omega⟩)
  rcases key 65 (-1) 0 0 (by omega) (Or.inl rfl) with q | q
  · exact absurd q h
  · exact q

def V6_isAmount (S A : sS) (G : sG) (x1 : Int32) (x2 : Int32) (x3 : Int32) : Int32 := if x1 < 0 then 0 else if x1 ≤ 1000 then if S 5 0 0 = 1 then if x1 ≤ 0 then 0 else if x3 ≤ S 0 0 8 then 0 else if V6_isItem S A G x2 = 0 then 0 else if V0_mayHold S A G ((S 5 0 1).toNatClampNeg) x2 = 0 then 0 else 1 else 1 else 0
set_option maxRecDepth 100000 in
set_option maxHeartbeats 4000000 in
theorem k6_isAmount_0 {p : Program} {l : Launch} {e : Env} {s : State} {m : MethodId} {args : Array Value} {below : List Frame} {meth : Method} {c : Code} {D : va_G} {aC : Nat → ClassId} {ad : Nat → Nat → Nat} {X : Nat → Nat → Prop} {S A : sS} {G : sG} (C0 : s_C p s m args meth c b6_isAmount 4 R6 (some .boolean) D aC) (hB : s_B D aC ad X (s_N ad X) S A G s.heap s.heap []) (hX : xC X G) (x1 : Int32) (x2 : Int32) (x3 : Int32) (hsb : ¬ S 5 0 0 = -1 → 0 ≤ (S 5 0 1).toInt ∧ (S 5 0 1).toInt < 64) {ls : Array Slot} (hl : lv_has ls 4 [(0, .ref (ad 0 0)), (1, .int x1), (2, .int x2), (3, .int x3)]) {o : Int32} (hO : V6_isAmount S A G x1 x2 x3 = o) : W p l e (rmk 1) s m args below meth c s.heap [] 0 0 (MQ below (s_Qp o) args s 0 0 (fun _ => False)) (F0 m 0 ls []) := by
  obtain ⟨hx, hb, hml, hown, hw, hK, hr, hlocks⟩ := id C0
  unfold V6_isAmount at hO
  refine lv_iload_n hx hb d6_isAmount_0 rfl (lv_at hl 1 rfl) ?_
  refine lv_if_lt (tgt := 11) hx hb d6_isAmount_1 (by decide) (fun c_1 => ?_) (fun c_1 => ?_)
  · refine lv_iconst (v := 0) hx hb d6_isAmount_11 (by decide) ?_
    exact se_pz C0 (Or.inl rfl) (by rw [if_pos c_1] at hO; exact hO) d6_isAmount_12
  · refine lv_iload_n hx hb d6_isAmount_4 rfl (lv_at hl 1 rfl) ?_
    refine lv_sipush (v := 1000) hx hb d6_isAmount_5 (by decide) ?_
    refine lv_icmp_le (tgt := 13) hx hb d6_isAmount_8 (by decide) (fun c_2 => ?_) (fun c_2 => ?_)
    · refine lv_aload_n hx hb d6_isAmount_13 rfl (lv_at hl 0 rfl) ?_
      refine sr_get (v := .ref (ad 5 0)) hx hb hw hown hK hB 4 (hX.1 0 (by decide)) cf_0 us6 (by decide) fl_6_36 (rfl) d6_isAmount_14 ?_
      refine sr_get (v := .int (S 5 0 0)) hx hb hw hown hK hB 0 (hX.1 5 (by decide)) cf_5 us4 (by decide) fl_6_188 (rfl) d6_isAmount_17 ?_
      refine lv_iconst (v := 1) hx hb d6_isAmount_20 (by decide) ?_
      refine lv_icmp_ne (tgt := 63) hx hb d6_isAmount_21 (by decide) (fun c_3 => ?_) (fun c_3 => ?_)
      · refine lv_iconst (v := 1) hx hb d6_isAmount_63 (by decide) ?_
        refine lv_goto (tgt := 68) hx hb d6_isAmount_64 (by decide) ?_
        exact se_pz C0 (Or.inr rfl) (by rw [if_neg c_1, if_pos c_2, if_neg c_3] at hO; exact hO) d6_isAmount_68
      · refine lv_iload_n hx hb d6_isAmount_24 rfl (lv_at hl 1 rfl) ?_
        refine lv_if_le (tgt := 67) hx hb d6_isAmount_25 (by decide) (fun c_4 => ?_) (fun c_4 => ?_)
        · refine lv_iconst (v := 0) hx hb d6_isAmount_67 (by decide) ?_
          exact se_pz C0 (Or.inl rfl) (by rw [if_neg c_1, if_pos c_2, if_pos c_3, if_pos c_4] at hO; exact hO) d6_isAmount_68
        · refine lv_iload_n hx hb d6_isAmount_28 rfl (lv_at hl 3 rfl) ?_
          refine lv_aload_n hx hb d6_isAmount_29 rfl (lv_at hl 0 rfl) ?_
          refine sr_get (v := .int (S 0 0 8)) hx hb hw hown hK hB 8 (hX.1 0 (by decide)) cf_0 us6 (by decide) fl_6_54 (rfl) d6_isAmount_30 ?_
          refine lv_icmp_le (tgt := 67) hx hb d6_isAmount_33 (by decide) (fun c_5 => ?_) (fun c_5 => ?_)
          · refine lv_iconst (v := 0) hx hb d6_isAmount_67 (by decide) ?_
            exact se_pz C0 (Or.inl rfl) (by rw [if_neg c_1, if_pos c_2, if_pos c_3, if_neg c_4, if_pos c_5] at hO; exact hO) d6_isAmount_68
          · refine lv_aload_n hx hb d6_isAmount_36 rfl (lv_at hl 0 rfl) ?_
            refine lv_iload_n hx hb d6_isAmount_37 rfl (lv_at hl 2 rfl) ?_
            refine sr_vp C0 hB (m6_isItem hX x2 ) (hX.1 0 (by decide)) cf_0 ml_6_101 im_6_isItem se_6_isItem in_6 cd_6_isItem hd6_isItem ⟨⟨rfl, rfl⟩, by decide, by decide⟩ ⟨Nat.zero_le _, Nat.zero_le _⟩ hl.1 rfl (Nat.le_of_ble_eq_true rfl) d6_isAmount_38 ?_
            refine lv_if_eq (tgt := 67) hx hb d6_isAmount_41 (by decide) (fun c_6 => ?_) (fun c_6 => ?_)
            · refine lv_iconst (v := 0) hx hb d6_isAmount_67 (by decide) ?_
              exact se_pz C0 (Or.inl rfl) (by rw [if_neg c_1, if_pos c_2, if_pos c_3, if_neg c_4, if_neg c_5, if_pos c_6] at hO; exact hO) d6_isAmount_68
            · refine lv_aload_n hx hb d6_isAmount_44 rfl (lv_at hl 0 rfl) ?_
              refine sr_get (v := .ref (ad 3 0)) hx hb hw hown hK hB 2 (hX.1 0 (by decide)) cf_0 us6 (by decide) fl_6_23 (rfl) d6_isAmount_45 ?_
              refine lv_aload_n hx hb d6_isAmount_48 rfl (lv_at hl 0 rfl) ?_
              refine sr_get (v := .ref (ad 5 0)) hx hb hw hown hK hB 4 (hX.1 0 (by decide)) cf_0 us6 (by decide) fl_6_36 (rfl) d6_isAmount_49 ?_
              refine sr_get (v := .int (S 5 0 1)) hx hb hw hown hK hB 1 (hX.1 5 (by decide)) cf_5 us4 (by decide) fl_6_165 (rfl) d6_isAmount_52 ?_
              refine sr_aald (v := some ((S 5 0 1).toNatClampNeg)) hx hb hK hB (hX.1 3 (by decide)) rfl rfl rfl (by (refine vp_in_iff.mpr ?_); (show 0 ≤ (S 5 0 1).toInt ∧ (S 5 0 1).toInt < ((64 : Nat) : Int)); (have qs := hsb (by rw [‹S 5 0 0 = 1›]; decide));  omega) d6_isAmount_55 (by exact gb hX (show (S 5 0 1).toNatClampNeg < 64 by (have qs := hsb (by rw [‹S 5 0 0 = 1›]; decide)); (have cc9 := cl_i (x := S 5 0 1) (by omega));  omega)) ?_
              refine lv_iload_n hx hb d6_isAmount_56 rfl (lv_at hl 2 rfl) ?_
              refine sr_vp C0 hB (m0_mayHold hX ((S 5 0 1).toNatClampNeg) x2 (by (have qs := hsb (by rw [‹S 5 0 0 = 1›]; decide)); (have q9 := cl_i qs.1); omega)) (hX.2.2.1 ((S 5 0 1).toNatClampNeg) (show (S 5 0 1).toNatClampNeg < 64 by (have qs := hsb (by rw [‹S 5 0 0 = 1›]; decide)); (have cc9 := cl_i (x := S 5 0 1) (by omega));  omega)).1 cf_15 ml_6_293 im_0_mayHold se_0_mayHold in_0 cd_0_mayHold hd0_mayHold ⟨⟨rfl, rfl⟩, by decide, by decide⟩ ⟨Nat.zero_le _, Nat.zero_le _⟩ hl.1 rfl (Nat.le_of_ble_eq_true rfl) d6_isAmount_57 ?_
              refine lv_if_eq (tgt := 67) hx hb d6_isAmount_60 (by decide) (fun c_7 => ?_) (fun c_7 => ?_)
              · refine lv_iconst (v := 0) hx hb d6_isAmount_67 (by decide) ?_
                exact se_pz C0 (Or.inl rfl) (by rw [if_neg c_1, if_pos c_2, if_pos c_3, if_neg c_4, if_neg c_5, if_neg c_6, if_pos c_7] at hO; exact hO) d6_isAmount_68
              · refine lv_iconst (v := 1) hx hb d6_isAmount_63 (by decide) ?_
                refine lv_goto (tgt := 68) hx hb d6_isAmount_64 (by decide) ?_
                exact se_pz C0 (Or.inr rfl) (by rw [if_neg c_1, if_pos c_2, if_pos c_3, if_neg c_4, if_neg c_5, if_neg c_6, if_neg c_7] at hO; exact hO) d6_isAmount_68
    · refine lv_iconst (v := 0) hx hb d6_isAmount_11 (by decide) ?_
      exact se_pz C0 (Or.inl rfl) (by rw [if_neg c_1, if_neg c_2] at hO; exact hO) d6_isAmount_12
theorem z6_isAmount (S A : sS) (G : sG) (x1 : Int32) (x2 : Int32) (x3 : Int32) : V6_isAmount S A G x1 x2 x3 = 0 ∨ V6_isAmount S A G x1 x2 x3 = 1 := by
  unfold V6_isAmount
  (repeat' split) <;> first | exact Or.inl rfl | exact Or.inr rfl | apply z0_mayHold | apply z6_isItem
theorem hd6_isAmount : y6_isAmount.cls = R6 ∧ y6_isAmount.cls ≠ "java/lang/invoke/MethodHandle" ∧ y6_isAmount.cls ≠ "java/lang/invoke/VarHandle" ∧ (parseMethodDescriptor y6_isAmount.desc).map (fun d => d.parameters.length) = some 3 := ⟨rfl, by decide, by decide, by decide +kernel⟩
theorem m6_isAmount {l : Launch} {D : va_G} {aC : Nat → ClassId} {ad : Nat → Nat → Nat} {X : Nat → Nat → Prop} {S A : sS} {G : sG} (hX : xC X G) (x1 : Int32) (x2 : Int32) (x3 : Int32) (hsb : ¬ S 5 0 0 = -1 → 0 ≤ (S 5 0 1).toInt ∧ (S 5 0 1).toInt < 64) : Met l y6_isAmount (.code y6_isAmount b6_isAmount 4 (some .boolean) :: wall) (rmk 1) (s_Pc [.ref (ad 0 0), .int x1, .int x2, .int x3] D aC ad X S A G) (s_Qp (V6_isAmount S A G x1 x2 x3)) 0 0 (fun _ => False) :=
  s_met (by decide) rfl (Nat.le_of_ble_eq_true rfl) (fun p e s m args below meth c C0 hB ls hl => k6_isAmount_0 C0 hB hX x1 x2 x3 hsb hl rfl)

def O6_letIn_37 (S A : sS) (G : sG) (b : Nat) (x2 : Int32) (x3 : Int32) (x4 : Int32) : sS × sS := (S, A)
def O6_letIn_12 (S A : sS) (G : sG) (b : Nat) (x2 : Int32) (x3 : Int32) (x4 : Int32) : sS × sS := O6_letIn_37 (O2_write S A G 1 (S 0 0 8) (S 0 0 9) (S 5 0 1) x2 (-1)).1 (O2_write S A G 1 (S 0 0 8) (S 0 0 9) (S 5 0 1) x2 (-1)).2 G b x2 x3 x4
def O6_letIn (S A : sS) (G : sG) (b : Nat) (x2 : Int32) (x3 : Int32) (x4 : Int32) : sS × sS := O6_letIn_12 (O0_addLot (up3 S 15 b 2 x3) A G b x2 x4).1 (O0_addLot (up3 S 15 b 2 x3) A G b x2 x4).2 G b x2 x3 x4
set_option maxRecDepth 100000 in
set_option maxHeartbeats 4000000 in
theorem k6_letIn_37 {p : Program} {l : Launch} {e : Env} {s : State} {m : MethodId} {args : Array Value} {below : List Frame} {meth : Method} {c : Code} {D : va_G} {aC : Nat → ClassId} {ad : Nat → Nat → Nat} {X : Nat → Nat → Prop} {S A : sS} {G : sG} {H : Heap} {locs : List Loc} (C0 : s_C p s m args meth c b6_letIn 5 R6 none D aC) (hB : s_B D aC ad X (s_N ad X) S A G s.heap H locs) (hX : xC X G) (b : Nat) (x2 : Int32) (x3 : Int32) (x4 : Int32)  {ls : Array Slot} (hl : lv_has ls 5 [(0, .ref (ad 0 0)), (1, .ref (ad 15 b)), (2, .int x2), (3, .int x3), (4, .int x4)]) {o : sS × sS} (hO : O6_letIn_37 S A G b x2 x3 x4 = o) : W p l e (rmk 1) s m args below meth c H locs 0 0 (MQ below (s_Qv D aC ad X G o) args s 0 0 (s_N ad X)) (F0 m 37 ls []) := by
  obtain ⟨hx, hb, hml, hown, hw, hK, hr, hlocks⟩ := id C0
  unfold O6_letIn_37 at hO
  exact se_v C0 hB (hO) d6_letIn_37
set_option maxRecDepth 100000 in
set_option maxHeartbeats 4000000 in
theorem k6_letIn_12 {p : Program} {l : Launch} {e : Env} {s : State} {m : MethodId} {args : Array Value} {below : List Frame} {meth : Method} {c : Code} {D : va_G} {aC : Nat → ClassId} {ad : Nat → Nat → Nat} {X : Nat → Nat → Prop} {S A : sS} {G : sG} {H : Heap} {locs : List Loc} (C0 : s_C p s m args meth c b6_letIn 5 R6 none D aC) (hB : s_B D aC ad X (s_N ad X) S A G s.heap H locs) (hX : xC X G) (b : Nat) (x2 : Int32) (x3 : Int32) (x4 : Int32) (hsz : 0 ≤ (S 6 0 1).toInt ∧ (S 6 0 1).toInt ≤ 300) {ls : Array Slot} (hl : lv_has ls 5 [(0, .ref (ad 0 0)), (1, .ref (ad 15 b)), (2, .int x2), (3, .int x3), (4, .int x4)]) {o : sS × sS} (hO : O6_letIn_12 S A G b x2 x3 x4 = o) : W p l e (rmk 1) s m args below meth c H locs 0 0 (MQ below (s_Qv D aC ad X G o) args s 0 0 (s_N ad X)) (F0 m 12 ls []) := by
  obtain ⟨hx, hb, hml, hown, hw, hK, hr, hlocks⟩ := id C0
  unfold O6_letIn_12 at hO
  refine lv_aload_n hx hb d6_letIn_12 rfl (lv_at hl 0 rfl) ?_
  refine sr_get (v := .ref (ad 6 0)) hx hb hw hown hK hB 5 (hX.1 0 (by decide)) cf_0 us6 (by decide) fl_6_43 (rfl) d6_letIn_13 ?_
  refine lv_iconst (v := 1) hx hb d6_letIn_16 (by decide) ?_
  refine lv_aload_n hx hb d6_letIn_17 rfl (lv_at hl 0 rfl) ?_
  refine sr_get (v := .int (S 0 0 8)) hx hb hw hown hK hB 8 (hX.1 0 (by decide)) cf_0 us6 (by decide) fl_6_54 (rfl) d6_letIn_18 ?_
  refine lv_aload_n hx hb d6_letIn_21 rfl (lv_at hl 0 rfl) ?_
  refine sr_get (v := .int (S 0 0 9)) hx hb hw hown hK hB 9 (hX.1 0 (by decide)) cf_0 us6 (by decide) fl_6_58 (rfl) d6_letIn_22 ?_
  refine lv_aload_n hx hb d6_letIn_25 rfl (lv_at hl 0 rfl) ?_
  refine sr_get (v := .ref (ad 5 0)) hx hb hw hown hK hB 4 (hX.1 0 (by decide)) cf_0 us6 (by decide) fl_6_36 (rfl) d6_letIn_26 ?_
  refine sr_get (v := .int (S 5 0 1)) hx hb hw hown hK hB 1 (hX.1 5 (by decide)) cf_5 us4 (by decide) fl_6_165 (rfl) d6_letIn_29 ?_
  refine lv_iload_n hx hb d6_letIn_32 rfl (lv_at hl 2 rfl) ?_
  refine lv_iconst (v := (-1)) hx hb d6_letIn_33 (by decide) ?_
  refine sr_vv C0 hB (m2_write hX 1 (S 0 0 8) (S 0 0 9) (S 5 0 1) x2 (-1) (by (have lx1 := ln1);  first | assumption | omega)) (hX.1 6 (by decide)) cf_6 ml_6_177 im_2_write se_2_write in_2 cd_2_write hd2_write ⟨⟨rfl, rfl⟩, by decide, by decide⟩ ⟨Nat.zero_le _, Nat.zero_le _⟩ hl.1 rfl (Nat.le_of_ble_eq_true rfl) d6_letIn_34 (fun H locs hB => ?_)
  exact k6_letIn_37 C0 hB hX b x2 x3 x4  (lv_sub hl [0, 1, 2, 3, 4] rfl) (hO)
set_option maxRecDepth 100000 in
set_option maxHeartbeats 4000000 in
theorem k6_letIn_0 {p : Program} {l : Launch} {e : Env} {s : State} {m : MethodId} {args : Array Value} {below : List Frame} {meth : Method} {c : Code} {D : va_G} {aC : Nat → ClassId} {ad : Nat → Nat → Nat} {X : Nat → Nat → Prop} {S A : sS} {G : sG} {H : Heap} {locs : List Loc} (C0 : s_C p s m args meth c b6_letIn 5 R6 none D aC) (hB : s_B D aC ad X (s_N ad X) S A G s.heap H locs) (hX : xC X G) (b : Nat) (x2 : Int32) (x3 : Int32) (x4 : Int32) (hbn : b < 64) (hL : 0 ≤ (S 15 b 3).toInt ∧ (S 15 b 3).toInt ≤ 6) (hsz : 0 ≤ (S 6 0 1).toInt ∧ (S 6 0 1).toInt ≤ 300) {ls : Array Slot} (hl : lv_has ls 5 [(0, .ref (ad 0 0)), (1, .ref (ad 15 b)), (2, .int x2), (3, .int x3), (4, .int x4)]) {o : sS × sS} (hO : O6_letIn S A G b x2 x3 x4 = o) : W p l e (rmk 1) s m args below meth c H locs 0 0 (MQ below (s_Qv D aC ad X G o) args s 0 0 (s_N ad X)) (F0 m 0 ls []) := by
  obtain ⟨hx, hb, hml, hown, hw, hK, hr, hlocks⟩ := id C0
  unfold O6_letIn at hO
  refine lv_aload_n hx hb d6_letIn_0 rfl (lv_at hl 1 rfl) ?_
  refine lv_iload_n hx hb d6_letIn_1 rfl (lv_at hl 3 rfl) ?_
  refine sr_put hx hb hw hown hK hB 2 (hX.2.2.1 b hbn).1 cf_15 us0 tk0 nm0 (by decide) fl_6_155 rfl rfl rfl rfl d6_letIn_2 (fun H locs hB => ?_)
  refine lv_aload_n hx hb d6_letIn_5 rfl (lv_at hl 1 rfl) ?_
  refine lv_iload_n hx hb d6_letIn_6 rfl (lv_at hl 2 rfl) ?_
  refine lv_iload hx hb d6_letIn_7 (lv_at hl 4 rfl) ?_
  refine sr_vv C0 hB (m0_addLot hX b x2 x4 (by  first | assumption | omega) (hL)) (hX.2.2.1 b hbn).1 cf_15 ml_6_296 im_0_addLot se_0_addLot in_0 cd_0_addLot hd0_addLot ⟨⟨rfl, rfl⟩, by decide, by decide⟩ ⟨Nat.zero_le _, Nat.zero_le _⟩ hl.1 rfl (Nat.le_of_ble_eq_true rfl) d6_letIn_9 (fun H locs hB => ?_)
  exact k6_letIn_12 C0 hB hX b x2 x3 x4 (by rw [(addLot_fr).1 6 0 1 (fun q => absurd q.1 (by decide))]; exact hsz) (lv_sub hl [0, 1, 2, 3, 4] rfl) (hO)
theorem hd6_letIn : y6_letIn.cls = R6 ∧ y6_letIn.cls ≠ "java/lang/invoke/MethodHandle" ∧ y6_letIn.cls ≠ "java/lang/invoke/VarHandle" ∧ (parseMethodDescriptor y6_letIn.desc).map (fun d => d.parameters.length) = some 4 := ⟨rfl, by decide, by decide, by decide +kernel⟩
theorem m6_letIn {l : Launch} {D : va_G} {aC : Nat → ClassId} {ad : Nat → Nat → Nat} {X : Nat → Nat → Prop} {S A : sS} {G : sG} (hX : xC X G) (b : Nat) (x2 : Int32) (x3 : Int32) (x4 : Int32) (hbn : b < 64) (hL : 0 ≤ (S 15 b 3).toInt ∧ (S 15 b 3).toInt ≤ 6) (hsz : 0 ≤ (S 6 0 1).toInt ∧ (S 6 0 1).toInt ≤ 300) : Met l y6_letIn (.code y6_letIn b6_letIn 5 none :: wall) (rmk 1) (s_Pc [.ref (ad 0 0), .ref (ad 15 b), .int x2, .int x3, .int x4] D aC ad X S A G) (s_Qv D aC ad X G (O6_letIn S A G b x2 x3 x4)) 0 0 (s_N ad X) :=
  s_met (by decide) rfl (Nat.le_of_ble_eq_true rfl) (fun p e s m args below meth c C0 hB ls hl => k6_letIn_0 C0 hB hX b x2 x3 x4 hbn hL hsz hl rfl)

def O6_takeOut_64 (S A : sS) (G : sG) (b : Nat) (x2 : Int32) : sS × sS := (S, A)
def O6_takeOut_33 (S A : sS) (G : sG) (b : Nat) (x2 : Int32) : sS × sS := O6_takeOut_64 (O2_write S A G 2 (S 0 0 8) (S 0 0 9) (S 5 0 1) x2 (S 5 0 2)).1 (O2_write S A G 2 (S 0 0 8) (S 0 0 9) (S 5 0 1) x2 (S 5 0 2)).2 G b x2
def O6_takeOut_13 (S A : sS) (G : sG) (b : Nat) (x2 : Int32) : sS × sS := O6_takeOut_33 (O3_take S A G ((S 5 0 2).toNatClampNeg) x2 (S 0 0 8)).1 (O3_take S A G ((S 5 0 2).toNatClampNeg) x2 (S 0 0 8)).2 G b x2
def O6_takeOut (S A : sS) (G : sG) (b : Nat) (x2 : Int32) : sS × sS := O6_takeOut_13 (O0_remove S A G b x2 (V0_firstGiven S A G b (S 0 0 8))).1 (O0_remove S A G b x2 (V0_firstGiven S A G b (S 0 0 8))).2 G b x2
set_option maxRecDepth 100000 in
set_option maxHeartbeats 4000000 in
theorem k6_takeOut_64 {p : Program} {l : Launch} {e : Env} {s : State} {m : MethodId} {args : Array Value} {below : List Frame} {meth : Method} {c : Code} {D : va_G} {aC : Nat → ClassId} {ad : Nat → Nat → Nat} {X : Nat → Nat → Prop} {S A : sS} {G : sG} {H : Heap} {locs : List Loc} (C0 : s_C p s m args meth c b6_takeOut 3 R6 none D aC) (hB : s_B D aC ad X (s_N ad X) S A G s.heap H locs) (hX : xC X G) (b : Nat) (x2 : Int32)  {ls : Array Slot} (hl : lv_has ls 3 [(0, .ref (ad 0 0)), (1, .ref (ad 15 b)), (2, .int x2)]) {o : sS × sS} (hO : O6_takeOut_64 S A G b x2 = o) : W p l e (rmk 2) s m args below meth c H locs 0 0 (MQ below (s_Qv D aC ad X G o) args s 0 0 (s_N ad X)) (F0 m 64 ls []) := by
  obtain ⟨hx, hb, hml, hown, hw, hK, hr, hlocks⟩ := id C0
  unfold O6_takeOut_64 at hO
  exact se_v C0 hB (hO) d6_takeOut_64
set_option maxRecDepth 100000 in
set_option maxHeartbeats 4000000 in
theorem k6_takeOut_33 {p : Program} {l : Launch} {e : Env} {s : State} {m : MethodId} {args : Array Value} {below : List Frame} {meth : Method} {c : Code} {D : va_G} {aC : Nat → ClassId} {ad : Nat → Nat → Nat} {X : Nat → Nat → Prop} {S A : sS} {G : sG} {H : Heap} {locs : List Loc} (C0 : s_C p s m args meth c b6_takeOut 3 R6 none D aC) (hB : s_B D aC ad X (s_N ad X) S A G s.heap H locs) (hX : xC X G) (b : Nat) (x2 : Int32) (hsz : 0 ≤ (S 6 0 1).toInt ∧ (S 6 0 1).toInt ≤ 300) {ls : Array Slot} (hl : lv_has ls 3 [(0, .ref (ad 0 0)), (1, .ref (ad 15 b)), (2, .int x2)]) {o : sS × sS} (hO : O6_takeOut_33 S A G b x2 = o) : W p l e (rmk 2) s m args below meth c H locs 0 0 (MQ below (s_Qv D aC ad X G o) args s 0 0 (s_N ad X)) (F0 m 33 ls []) := by
  obtain ⟨hx, hb, hml, hown, hw, hK, hr, hlocks⟩ := id C0
  unfold O6_takeOut_33 at hO
  refine lv_aload_n hx hb d6_takeOut_33 rfl (lv_at hl 0 rfl) ?_
  refine sr_get (v := .ref (ad 6 0)) hx hb hw hown hK hB 5 (hX.1 0 (by decide)) cf_0 us6 (by decide) fl_6_43 (rfl) d6_takeOut_34 ?_
  refine lv_iconst (v := 2) hx hb d6_takeOut_37 (by decide) ?_
  refine lv_aload_n hx hb d6_takeOut_38 rfl (lv_at hl 0 rfl) ?_
  refine sr_get (v := .int (S 0 0 8)) hx hb hw hown hK hB 8 (hX.1 0 (by decide)) cf_0 us6 (by decide) fl_6_54 (rfl) d6_takeOut_39 ?_
  refine lv_aload_n hx hb d6_takeOut_42 rfl (lv_at hl 0 rfl) ?_
  refine sr_get (v := .int (S 0 0 9)) hx hb hw hown hK hB 9 (hX.1 0 (by decide)) cf_0 us6 (by decide) fl_6_58 (rfl) d6_takeOut_43 ?_
  refine lv_aload_n hx hb d6_takeOut_46 rfl (lv_at hl 0 rfl) ?_
  refine sr_get (v := .ref (ad 5 0)) hx hb hw hown hK hB 4 (hX.1 0 (by decide)) cf_0 us6 (by decide) fl_6_36 (rfl) d6_takeOut_47 ?_
  refine sr_get (v := .int (S 5 0 1)) hx hb hw hown hK hB 1 (hX.1 5 (by decide)) cf_5 us4 (by decide) fl_6_165 (rfl) d6_takeOut_50 ?_
  refine lv_iload_n hx hb d6_takeOut_53 rfl (lv_at hl 2 rfl) ?_
  refine lv_aload_n hx hb d6_takeOut_54 rfl (lv_at hl 0 rfl) ?_
  refine sr_get (v := .ref (ad 5 0)) hx hb hw hown hK hB 4 (hX.1 0 (by decide)) cf_0 us6 (by decide) fl_6_36 (rfl) d6_takeOut_55 ?_
  refine sr_get (v := .int (S 5 0 2)) hx hb hw hown hK hB 2 (hX.1 5 (by decide)) cf_5 us4 (by decide) fl_6_114 (rfl) d6_takeOut_58 ?_
  refine sr_vv C0 hB (m2_write hX 2 (S 0 0 8) (S 0 0 9) (S 5 0 1) x2 (S 5 0 2) (by  first | assumption | omega)) (hX.1 6 (by decide)) cf_6 ml_6_177 im_2_write se_2_write in_2 cd_2_write hd2_write ⟨⟨rfl, rfl⟩, by decide, by decide⟩ ⟨Nat.zero_le _, Nat.zero_le _⟩ hl.1 rfl (Nat.le_of_ble_eq_true rfl) d6_takeOut_61 (fun H locs hB => ?_)
  exact k6_takeOut_64 C0 hB hX b x2  (lv_sub hl [0, 1, 2] rfl) (hO)
set_option maxRecDepth 100000 in
set_option maxHeartbeats 4000000 in
theorem k6_takeOut_13 {p : Program} {l : Launch} {e : Env} {s : State} {m : MethodId} {args : Array Value} {below : List Frame} {meth : Method} {c : Code} {D : va_G} {aC : Nat → ClassId} {ad : Nat → Nat → Nat} {X : Nat → Nat → Prop} {S A : sS} {G : sG} {H : Heap} {locs : List Loc} (C0 : s_C p s m args meth c b6_takeOut 3 R6 none D aC) (hB : s_B D aC ad X (s_N ad X) S A G s.heap H locs) (hX : xC X G) (b : Nat) (x2 : Int32) (hsz : 0 ≤ (S 6 0 1).toInt ∧ (S 6 0 1).toInt ≤ 300) (hst : (0 ≤ (S 5 0 2).toInt ∧ (S 5 0 2).toInt < 60) ∧ ¬ G 4 (S 5 0 2).toNatClampNeg = none) {ls : Array Slot} (hl : lv_has ls 3 [(0, .ref (ad 0 0)), (1, .ref (ad 15 b)), (2, .int x2)]) {o : sS × sS} (hO : O6_takeOut_13 S A G b x2 = o) : W p l e (rmk 2) s m args below meth c H locs 0 0 (MQ below (s_Qv D aC ad X G o) args s 0 0 (s_N ad X)) (F0 m 13 ls []) := by
  obtain ⟨hx, hb, hml, hown, hw, hK, hr, hlocks⟩ := id C0
  unfold O6_takeOut_13 at hO
  refine lv_aload_n hx hb d6_takeOut_13 rfl (lv_at hl 0 rfl) ?_
  refine sr_get (v := .ref (ad 4 0)) hx hb hw hown hK hB 3 (hX.1 0 (by decide)) cf_0 us6 (by decide) fl_6_29 (rfl) d6_takeOut_14 ?_
  refine lv_aload_n hx hb d6_takeOut_17 rfl (lv_at hl 0 rfl) ?_
  refine sr_get (v := .ref (ad 5 0)) hx hb hw hown hK hB 4 (hX.1 0 (by decide)) cf_0 us6 (by decide) fl_6_36 (rfl) d6_takeOut_18 ?_
  refine sr_get (v := .int (S 5 0 2)) hx hb hw hown hK hB 2 (hX.1 5 (by decide)) cf_5 us4 (by decide) fl_6_114 (rfl) d6_takeOut_21 ?_
  refine sr_aald (v := some ((S 5 0 2).toNatClampNeg)) hx hb hK hB (hX.1 4 (by decide)) rfl rfl rfl (by (refine vp_in_iff.mpr ?_); (show 0 ≤ (S 5 0 2).toInt ∧ (S 5 0 2).toInt < ((60 : Nat) : Int)); (have qs := hst.1);  omega) d6_takeOut_24 (by exact (go hX (i := (S 5 0 2).toNatClampNeg) (hst.2)).1) ?_
  refine lv_iload_n hx hb d6_takeOut_25 rfl (lv_at hl 2 rfl) ?_
  refine lv_aload_n hx hb d6_takeOut_26 rfl (lv_at hl 0 rfl) ?_
  refine sr_get (v := .int (S 0 0 8)) hx hb hw hown hK hB 8 (hX.1 0 (by decide)) cf_0 us6 (by decide) fl_6_54 (rfl) d6_takeOut_27 ?_
  refine sr_vv C0 hB (m3_take hX ((S 5 0 2).toNatClampNeg) x2 (S 0 0 8) (go hX (i := (S 5 0 2).toNatClampNeg) (hst.2)).2) (go hX (i := (S 5 0 2).toNatClampNeg) (hst.2)).2 cf_14 ml_6_302 im_3_take se_3_take in_3 cd_3_take hd3_take ⟨⟨rfl, rfl⟩, by decide, by decide⟩ ⟨Nat.zero_le _, Nat.zero_le _⟩ hl.1 rfl (Nat.le_of_ble_eq_true rfl) d6_takeOut_30 (fun H locs hB => ?_)
  exact k6_takeOut_33 C0 hB hX b x2 (by rw [take_S (f := 6) (by decide)]; exact hsz) (lv_sub hl [0, 1, 2] rfl) (hO)
set_option maxRecDepth 100000 in
set_option maxHeartbeats 4000000 in
theorem k6_takeOut_0 {p : Program} {l : Launch} {e : Env} {s : State} {m : MethodId} {args : Array Value} {below : List Frame} {meth : Method} {c : Code} {D : va_G} {aC : Nat → ClassId} {ad : Nat → Nat → Nat} {X : Nat → Nat → Prop} {S A : sS} {G : sG} {H : Heap} {locs : List Loc} (C0 : s_C p s m args meth c b6_takeOut 3 R6 none D aC) (hB : s_B D aC ad X (s_N ad X) S A G s.heap H locs) (hX : xC X G) (b : Nat) (x2 : Int32) (hbn : b < 64) (hL : 0 ≤ (S 15 b 3).toInt ∧ (S 15 b 3).toInt ≤ 6) (hsz : 0 ≤ (S 6 0 1).toInt ∧ (S 6 0 1).toInt ≤ 300) (hst : (0 ≤ (S 5 0 2).toInt ∧ (S 5 0 2).toInt < 60) ∧ ¬ G 4 (S 5 0 2).toNatClampNeg = none) {ls : Array Slot} (hl : lv_has ls 3 [(0, .ref (ad 0 0)), (1, .ref (ad 15 b)), (2, .int x2)]) {o : sS × sS} (hO : O6_takeOut S A G b x2 = o) : W p l e (rmk 2) s m args below meth c H locs 0 0 (MQ below (s_Qv D aC ad X G o) args s 0 0 (s_N ad X)) (F0 m 0 ls []) := by
  obtain ⟨hx, hb, hml, hown, hw, hK, hr, hlocks⟩ := id C0
  unfold O6_takeOut at hO
  refine lv_aload_n hx hb d6_takeOut_0 rfl (lv_at hl 1 rfl) ?_
  refine lv_iload_n hx hb d6_takeOut_1 rfl (lv_at hl 2 rfl) ?_
  refine lv_aload_n hx hb d6_takeOut_2 rfl (lv_at hl 1 rfl) ?_
  refine lv_aload_n hx hb d6_takeOut_3 rfl (lv_at hl 0 rfl) ?_
  refine sr_get (v := .int (S 0 0 8)) hx hb hw hown hK hB 8 (hX.1 0 (by decide)) cf_0 us6 (by decide) fl_6_54 (rfl) d6_takeOut_4 ?_
  refine sr_vp C0 hB (m0_firstGiven hX b (S 0 0 8) (by  first | assumption | omega) (by  first | assumption | omega)) (hX.2.2.1 b hbn).1 cf_15 ml_6_290 im_0_firstGiven se_0_firstGiven in_0 cd_0_firstGiven hd0_firstGiven ⟨⟨rfl, rfl⟩, by decide, by decide⟩ ⟨Nat.zero_le _, Nat.zero_le _⟩ hl.1 rfl (Nat.le_of_ble_eq_true rfl) d6_takeOut_7 ?_
  refine sr_vv C0 hB (m0_remove hX b x2 (V0_firstGiven S A G b (S 0 0 8)) (by  first | assumption | omega) (by  first | assumption | omega) (fg_in hL)) (hX.2.2.1 b hbn).1 cf_15 ml_6_299 im_0_remove se_0_remove in_0 cd_0_remove hd0_remove ⟨⟨rfl, rfl⟩, by decide, by decide⟩ ⟨Nat.zero_le _, Nat.zero_le _⟩ hl.1 rfl (Nat.le_of_ble_eq_true rfl) d6_takeOut_10 (fun H locs hB => ?_)
  exact k6_takeOut_13 C0 hB hX b x2 (by rw [(remove_fr).1 6 0 1 (fun q => absurd q.1 (by decide))]; exact hsz) (by rw [(remove_fr).1 5 0 2 (fun q => absurd q.1 (by decide))]; exact hst) (lv_sub hl [0, 1, 2] rfl) (hO)
theorem hd6_takeOut : y6_takeOut.cls = R6 ∧ y6_takeOut.cls ≠ "java/lang/invoke/MethodHandle" ∧ y6_takeOut.cls ≠ "java/lang/invoke/VarHandle" ∧ (parseMethodDescriptor y6_takeOut.desc).map (fun d => d.parameters.length) = some 2 := ⟨rfl, by decide, by decide, by decide +kernel⟩
theorem m6_takeOut {l : Launch} {D : va_G} {aC : Nat → ClassId} {ad : Nat → Nat → Nat} {X : Nat → Nat → Prop} {S A : sS} {G : sG} (hX : xC X G) (b : Nat) (x2 : Int32) (hbn : b < 64) (hL : 0 ≤ (S 15 b 3).toInt ∧ (S 15 b 3).toInt ≤ 6) (hsz : 0 ≤ (S 6 0 1).toInt ∧ (S 6 0 1).toInt ≤ 300) (hst : (0 ≤ (S 5 0 2).toInt ∧ (S 5 0 2).toInt < 60) ∧ ¬ G 4 (S 5 0 2).toNatClampNeg = none) : Met l y6_takeOut (.code y6_takeOut b6_takeOut 3 none :: wall) (rmk 2) (s_Pc [.ref (ad 0 0), .ref (ad 15 b), .int x2] D aC ad X S A G) (s_Qv D aC ad X G (O6_takeOut S A G b x2)) 0 0 (s_N ad X) :=
  s_met (by decide) rfl (Nat.le_of_ble_eq_true rfl) (fun p e s m args below meth c C0 hB ls hl => k6_takeOut_0 C0 hB hX b x2 hbn hL hsz hst hl rfl)

def O6_wasteFrom_31 (S A : sS) (G : sG) (b : Nat) (x2 : Int32) : sS × sS := (S, A)
def O6_wasteFrom_6 (S A : sS) (G : sG) (b : Nat) (x2 : Int32) : sS × sS := O6_wasteFrom_31 (O2_write S A G 4 (S 0 0 8) (S 0 0 9) (S 5 0 1) x2 (-1)).1 (O2_write S A G 4 (S 0 0 8) (S 0 0 9) (S 5 0 1) x2 (-1)).2 G b x2
def O6_wasteFrom (S A : sS) (G : sG) (b : Nat) (x2 : Int32) : sS × sS := O6_wasteFrom_6 (O0_remove S A G b x2 0).1 (O0_remove S A G b x2 0).2 G b x2
set_option maxRecDepth 100000 in
set_option maxHeartbeats 4000000 in
theorem k6_wasteFrom_31 {p : Program} {l : Launch} {e : Env} {s : State} {m : MethodId} {args : Array Value} {below : List Frame} {meth : Method} {c : Code} {D : va_G} {aC : Nat → ClassId} {ad : Nat → Nat → Nat} {X : Nat → Nat → Prop} {S A : sS} {G : sG} {H : Heap} {locs : List Loc} (C0 : s_C p s m args meth c b6_wasteFrom 3 R6 none D aC) (hB : s_B D aC ad X (s_N ad X) S A G s.heap H locs) (hX : xC X G) (b : Nat) (x2 : Int32)  {ls : Array Slot} (hl : lv_has ls 3 [(0, .ref (ad 0 0)), (1, .ref (ad 15 b)), (2, .int x2)]) {o : sS × sS} (hO : O6_wasteFrom_31 S A G b x2 = o) : W p l e (rmk 2) s m args below meth c H locs 0 0 (MQ below (s_Qv D aC ad X G o) args s 0 0 (s_N ad X)) (F0 m 31 ls []) := by
  obtain ⟨hx, hb, hml, hown, hw, hK, hr, hlocks⟩ := id C0
  unfold O6_wasteFrom_31 at hO
  exact se_v C0 hB (hO) d6_wasteFrom_31
set_option maxRecDepth 100000 in
set_option maxHeartbeats 4000000 in
theorem k6_wasteFrom_6 {p : Program} {l : Launch} {e : Env} {s : State} {m : MethodId} {args : Array Value} {below : List Frame} {meth : Method} {c : Code} {D : va_G} {aC : Nat → ClassId} {ad : Nat → Nat → Nat} {X : Nat → Nat → Prop} {S A : sS} {G : sG} {H : Heap} {locs : List Loc} (C0 : s_C p s m args meth c b6_wasteFrom 3 R6 none D aC) (hB : s_B D aC ad X (s_N ad X) S A G s.heap H locs) (hX : xC X G) (b : Nat) (x2 : Int32) (hsz : 0 ≤ (S 6 0 1).toInt ∧ (S 6 0 1).toInt ≤ 300) {ls : Array Slot} (hl : lv_has ls 3 [(0, .ref (ad 0 0)), (1, .ref (ad 15 b)), (2, .int x2)]) {o : sS × sS} (hO : O6_wasteFrom_6 S A G b x2 = o) : W p l e (rmk 2) s m args below meth c H locs 0 0 (MQ below (s_Qv D aC ad X G o) args s 0 0 (s_N ad X)) (F0 m 6 ls []) := by
  obtain ⟨hx, hb, hml, hown, hw, hK, hr, hlocks⟩ := id C0
  unfold O6_wasteFrom_6 at hO
  refine lv_aload_n hx hb d6_wasteFrom_6 rfl (lv_at hl 0 rfl) ?_
  refine sr_get (v := .ref (ad 6 0)) hx hb hw hown hK hB 5 (hX.1 0 (by decide)) cf_0 us6 (by decide) fl_6_43 (rfl) d6_wasteFrom_7 ?_
  refine lv_iconst (v := 4) hx hb d6_wasteFrom_10 (by decide) ?_
  refine lv_aload_n hx hb d6_wasteFrom_11 rfl (lv_at hl 0 rfl) ?_
  refine sr_get (v := .int (S 0 0 8)) hx hb hw hown hK hB 8 (hX.1 0 (by decide)) cf_0 us6 (by decide) fl_6_54 (rfl) d6_wasteFrom_12 ?_
  refine lv_aload_n hx hb d6_wasteFrom_15 rfl (lv_at hl 0 rfl) ?_
  refine sr_get (v := .int (S 0 0 9)) hx hb hw hown hK hB 9 (hX.1 0 (by decide)) cf_0 us6 (by decide) fl_6_58 (rfl) d6_wasteFrom_16 ?_
  refine lv_aload_n hx hb d6_wasteFrom_19 rfl (lv_at hl 0 rfl) ?_
  refine sr_get (v := .ref (ad 5 0)) hx hb hw hown hK hB 4 (hX.1 0 (by decide)) cf_0 us6 (by decide) fl_6_36 (rfl) d6_wasteFrom_20 ?_
  refine sr_get (v := .int (S 5 0 1)) hx hb hw hown hK hB 1 (hX.1 5 (by decide)) cf_5 us4 (by decide) fl_6_165 (rfl) d6_wasteFrom_23 ?_
  refine lv_iload_n hx hb d6_wasteFrom_26 rfl (lv_at hl 2 rfl) ?_
  refine lv_iconst (v := (-1)) hx hb d6_wasteFrom_27 (by decide) ?_
  refine sr_vv C0 hB (m2_write hX 4 (S 0 0 8) (S 0 0 9) (S 5 0 1) x2 (-1) (by (have lx1 := ln1);  first | assumption | omega)) (hX.1 6 (by decide)) cf_6 ml_6_177 im_2_write se_2_write in_2 cd_2_write hd2_write ⟨⟨rfl, rfl⟩, by decide, by decide⟩ ⟨Nat.zero_le _, Nat.zero_le _⟩ hl.1 rfl (Nat.le_of_ble_eq_true rfl) d6_wasteFrom_28 (fun H locs hB => ?_)
  exact k6_wasteFrom_31 C0 hB hX b x2  (lv_sub hl [0, 1, 2] rfl) (hO)
set_option maxRecDepth 100000 in
set_option maxHeartbeats 4000000 in
theorem k6_wasteFrom_0 {p : Program} {l : Launch} {e : Env} {s : State} {m : MethodId} {args : Array Value} {below : List Frame} {meth : Method} {c : Code} {D : va_G} {aC : Nat → ClassId} {ad : Nat → Nat → Nat} {X : Nat → Nat → Prop} {S A : sS} {G : sG} {H : Heap} {locs : List Loc} (C0 : s_C p s m args meth c b6_wasteFrom 3 R6 none D aC) (hB : s_B D aC ad X (s_N ad X) S A G s.heap H locs) (hX : xC X G) (b : Nat) (x2 : Int32) (hbn : b < 64) (hL : 0 ≤ (S 15 b 3).toInt ∧ (S 15 b 3).toInt ≤ 6) (hsz : 0 ≤ (S 6 0 1).toInt ∧ (S 6 0 1).toInt ≤ 300) {ls : Array Slot} (hl : lv_has ls 3 [(0, .ref (ad 0 0)), (1, .ref (ad 15 b)), (2, .int x2)]) {o : sS × sS} (hO : O6_wasteFrom S A G b x2 = o) : W p l e (rmk 2) s m args below meth c H locs 0 0 (MQ below (s_Qv D aC ad X G o) args s 0 0 (s_N ad X)) (F0 m 0 ls []) := by
  obtain ⟨hx, hb, hml, hown, hw, hK, hr, hlocks⟩ := id C0
  unfold O6_wasteFrom at hO
  refine lv_aload_n hx hb d6_wasteFrom_0 rfl (lv_at hl 1 rfl) ?_
  refine lv_iload_n hx hb d6_wasteFrom_1 rfl (lv_at hl 2 rfl) ?_
  refine lv_iconst (v := 0) hx hb d6_wasteFrom_2 (by decide) ?_
  refine sr_vv C0 hB (m0_remove hX b x2 0 (by  first | assumption | omega) (by  first | assumption | omega) (by decide)) (hX.2.2.1 b hbn).1 cf_15 ml_6_299 im_0_remove se_0_remove in_0 cd_0_remove hd0_remove ⟨⟨rfl, rfl⟩, by decide, by decide⟩ ⟨Nat.zero_le _, Nat.zero_le _⟩ hl.1 rfl (Nat.le_of_ble_eq_true rfl) d6_wasteFrom_3 (fun H locs hB => ?_)
  exact k6_wasteFrom_6 C0 hB hX b x2 (by rw [(remove_fr).1 6 0 1 (fun q => absurd q.1 (by decide))]; exact hsz) (lv_sub hl [0, 1, 2] rfl) (hO)
theorem hd6_wasteFrom : y6_wasteFrom.cls = R6 ∧ y6_wasteFrom.cls ≠ "java/lang/invoke/MethodHandle" ∧ y6_wasteFrom.cls ≠ "java/lang/invoke/VarHandle" ∧ (parseMethodDescriptor y6_wasteFrom.desc).map (fun d => d.parameters.length) = some 2 := ⟨rfl, by decide, by decide, by decide +kernel⟩
theorem m6_wasteFrom {l : Launch} {D : va_G} {aC : Nat → ClassId} {ad : Nat → Nat → Nat} {X : Nat → Nat → Prop} {S A : sS} {G : sG} (hX : xC X G) (b : Nat) (x2 : Int32) (hbn : b < 64) (hL : 0 ≤ (S 15 b 3).toInt ∧ (S 15 b 3).toInt ≤ 6) (hsz : 0 ≤ (S 6 0 1).toInt ∧ (S 6 0 1).toInt ≤ 300) : Met l y6_wasteFrom (.code y6_wasteFrom b6_wasteFrom 3 none :: wall) (rmk 2) (s_Pc [.ref (ad 0 0), .ref (ad 15 b), .int x2] D aC ad X S A G) (s_Qv D aC ad X G (O6_wasteFrom S A G b x2)) 0 0 (s_N ad X) :=
  s_met (by decide) rfl (Nat.le_of_ble_eq_true rfl) (fun p e s m args below meth c C0 hB ls hl => k6_wasteFrom_0 C0 hB hX b x2 hbn hL hsz hl rfl)

theorem letIn_l {S A : sS} {G : sG} {b : Nat} {x2 x3 x4 : Int32} (hL : 0 ≤ (S 15 b 3).toInt ∧ (S 15 b 3).toInt ≤ 6) : 0 ≤ ((O6_letIn S A G b x2 x3 x4).1 15 b 3).toInt ∧ ((O6_letIn S A G b x2 x3 x4).1 15 b 3).toInt ≤ 6 := by
  unfold O6_letIn O6_letIn_12 O6_letIn_37
  dsimp only
  rw [write_S (f := 15) (by decide)]
  exact addLot_l hL
theorem takeOut_l {S A : sS} {G : sG} {b : Nat} {x2 : Int32} (hL : 0 ≤ (S 15 b 3).toInt ∧ (S 15 b 3).toInt ≤ 6) : 0 ≤ ((O6_takeOut S A G b x2).1 15 b 3).toInt ∧ ((O6_takeOut S A G b x2).1 15 b 3).toInt ≤ 6 := by
  unfold O6_takeOut O6_takeOut_13 O6_takeOut_33 O6_takeOut_64
  dsimp only
  rw [write_S (f := 15) (by decide), take_S (f := 15) (by decide)]
  exact remove_l hL
theorem wasteFrom_l {S A : sS} {G : sG} {b : Nat} {x2 : Int32} (hL : 0 ≤ (S 15 b 3).toInt ∧ (S 15 b 3).toInt ≤ 6) : 0 ≤ ((O6_wasteFrom S A G b x2).1 15 b 3).toInt ∧ ((O6_wasteFrom S A G b x2).1 15 b 3).toInt ≤ 6 := by
  unfold O6_wasteFrom O6_wasteFrom_6 O6_wasteFrom_31
  dsimp only
  rw [write_S (f := 15) (by decide)]
  exact remove_l hL

def O6_amount_214 (S A : sS) (G : sG) (x1 : Int32) (x2 : Int32) (x3 : Int32) (n4 : Nat) : Int32 × sS × sS := (V0_book S A G n4, S, A)
def O6_amount_202 (S A : sS) (G : sG) (x1 : Int32) (x2 : Int32) (x3 : Int32) (n4 : Nat) : Int32 × sS × sS := O6_amount_214 (O6_accept (up3 S 5 0 6 1) A G ).1 (O6_accept (up3 S 5 0 6 1) A G ).2 G x1 x2 x3 n4
def O6_amount_172 (S A : sS) (G : sG) (x1 : Int32) (x2 : Int32) (x3 : Int32) (n4 : Nat) : Int32 × sS × sS := O6_amount_202 S A G x1 x2 x3 n4
def O6_amount_192 (S A : sS) (G : sG) (x1 : Int32) (x2 : Int32) (x3 : Int32) (n4 : Nat) : Int32 × sS × sS := O6_amount_202 S A G x1 x2 x3 n4
def O6_amount (S A : sS) (G : sG) (x1 : Int32) (x2 : Int32) (x3 : Int32) : Int32 × sS × sS := if V6_isAmount S A G x1 x2 x3 = 0 then ((-1), S, A) else if S 0 0 9 = (-1) then ((-2), S, A) else if V4_takesAmount S A G  = 0 then ((-4), S, A) else if S 5 0 0 = 0 then if x1 ≤ S 14 ((S 5 0 2).toNatClampNeg) 3 then if V0_given S A G ((S 5 0 1).toNatClampNeg) (S 0 0 8) < x1 then ((-7), (up3 S 5 0 4 1), A) else if S 6 0 1 < 300 then O6_amount_192 (O6_takeOut S A G ((S 5 0 1).toNatClampNeg) x1).1 (O6_takeOut S A G ((S 5 0 1).toNatClampNeg) x1).2 G x1 x2 x3 ((S 5 0 1).toNatClampNeg) else ((-8), S, A) else ((-6), S, A) else if S 5 0 0 = 3 then if x1 ≤ V0_book S A G ((S 5 0 1).toNatClampNeg) then if S 6 0 1 < 300 then O6_amount_202 (O6_wasteFrom S A G ((S 5 0 1).toNatClampNeg) x1).1 (O6_wasteFrom S A G ((S 5 0 1).toNatClampNeg) x1).2 G x1 x2 x3 ((S 5 0 1).toNatClampNeg) else ((-8), S, A) else ((-7), (up3 S 5 0 4 1), A) else if S 6 0 1 < 300 then if S 5 0 0 = 1 then O6_amount_172 (O6_letIn S A G ((S 5 0 1).toNatClampNeg) x1 x2 x3).1 (O6_letIn S A G ((S 5 0 1).toNatClampNeg) x1 x2 x3).2 G x1 x2 x3 ((S 5 0 1).toNatClampNeg) else O6_amount_202 (O6_wasteFrom S A G ((S 5 0 1).toNatClampNeg) x1).1 (O6_wasteFrom S A G ((S 5 0 1).toNatClampNeg) x1).2 G x1 x2 x3 ((S 5 0 1).toNatClampNeg) else ((-8), S, A)
set_option maxRecDepth 100000 in
set_option maxHeartbeats 4000000 in
theorem k6_amount_214 {p : Program} {l : Launch} {e : Env} {s : State} {m : MethodId} {args : Array Value} {below : List Frame} {meth : Method} {c : Code} {D : va_G} {aC : Nat → ClassId} {ad : Nat → Nat → Nat} {X : Nat → Nat → Prop} {S A : sS} {G : sG} {H : Heap} {locs : List Loc} (C0 : s_C p s m args meth c b6_amount 5 R6 (some .int) D aC) (hB : s_B D aC ad X (s_N ad X) S A G s.heap H locs) (hX : xC X G) (x1 : Int32) (x2 : Int32) (x3 : Int32) (n4 : Nat) (hLb : 0 ≤ (S 15 n4 3).toInt ∧ (S 15 n4 3).toInt ≤ 6) (hn4 : n4 < 64) {ls : Array Slot} (hl : lv_has ls 5 [(0, .ref (ad 0 0)), (1, .int x1), (2, .int x2), (3, .int x3), (4, .ref (ad 15 n4))]) {o : Int32 × sS × sS} (hO : O6_amount_214 S A G x1 x2 x3 n4 = o) : W p l e (rmk 3) s m args below meth c H locs 0 0 (MQ below (s_Qi D aC ad X G o) args s 0 0 (s_N ad X)) (F0 m 214 ls []) := by
  obtain ⟨hx, hb, hml, hown, hw, hK, hr, hlocks⟩ := id C0
  unfold O6_amount_214 at hO
  refine lv_aload hx hb d6_amount_214 (lv_at hl 4 rfl) ?_
  refine sr_vp C0 hB (m0_book hX n4 (hn4) (hLb)) (hX.2.2.1 n4 hn4).1 cf_15 ml_6_194 im_0_book se_0_book in_0 cd_0_book hd0_book ⟨⟨rfl, rfl⟩, by decide, by decide⟩ ⟨Nat.zero_le _, Nat.zero_le _⟩ hl.1 rfl (Nat.le_of_ble_eq_true rfl) d6_amount_216 ?_
  exact se_i C0 hB (hO) d6_amount_219
set_option maxRecDepth 100000 in
set_option maxHeartbeats 4000000 in
theorem k6_amount_202 {p : Program} {l : Launch} {e : Env} {s : State} {m : MethodId} {args : Array Value} {below : List Frame} {meth : Method} {c : Code} {D : va_G} {aC : Nat → ClassId} {ad : Nat → Nat → Nat} {X : Nat → Nat → Prop} {S A : sS} {G : sG} {H : Heap} {locs : List Loc} (C0 : s_C p s m args meth c b6_amount 5 R6 (some .int) D aC) (hB : s_B D aC ad X (s_N ad X) S A G s.heap H locs) (hX : xC X G) (x1 : Int32) (x2 : Int32) (x3 : Int32) (n4 : Nat) (hLb : 0 ≤ (S 15 n4 3).toInt ∧ (S 15 n4 3).toInt ≤ 6) (hn4 : n4 < 64) {ls : Array Slot} (hl : lv_has ls 5 [(0, .ref (ad 0 0)), (1, .int x1), (2, .int x2), (3, .int x3), (4, .ref (ad 15 n4))]) {o : Int32 × sS × sS} (hO : O6_amount_202 S A G x1 x2 x3 n4 = o) : W p l e (rmk 3) s m args below meth c H locs 0 0 (MQ below (s_Qi D aC ad X G o) args s 0 0 (s_N ad X)) (F0 m 202 ls []) := by
  obtain ⟨hx, hb, hml, hown, hw, hK, hr, hlocks⟩ := id C0
  unfold O6_amount_202 at hO
  refine lv_aload_n hx hb d6_amount_202 rfl (lv_at hl 0 rfl) ?_
  refine sr_get (v := .ref (ad 5 0)) hx hb hw hown hK hB 4 (hX.1 0 (by decide)) cf_0 us6 (by decide) fl_6_36 (rfl) d6_amount_203 ?_
  refine lv_iconst (v := 1) hx hb d6_amount_206 (by decide) ?_
  refine sr_put hx hb hw hown hK hB 6 (hX.1 5 (by decide)) cf_5 us4 tk4 nm4 (by decide) fl_6_209 rfl rfl rfl rfl d6_amount_207 (fun H locs hB => ?_)
  refine lv_aload_n hx hb d6_amount_210 rfl (lv_at hl 0 rfl) ?_
  refine sr_vv C0 hB (m6_accept hX  ) (hX.1 0 (by decide)) cf_0 ml_6_98 im_6_accept se_6_accept in_6 cd_6_accept hd6_accept ⟨⟨rfl, rfl⟩, by decide, by decide⟩ ⟨Nat.zero_le _, Nat.zero_le _⟩ hl.1 rfl (Nat.le_of_ble_eq_true rfl) d6_amount_211 (fun H locs hB => ?_)
  exact k6_amount_214 C0 hB hX x1 x2 x3 n4 (hLb) (hn4) (lv_sub hl [0, 1, 2, 3, 4] rfl) (hO)
set_option maxRecDepth 100000 in
set_option maxHeartbeats 4000000 in
theorem k6_amount_172 {p : Program} {l : Launch} {e : Env} {s : State} {m : MethodId} {args : Array Value} {below : List Frame} {meth : Method} {c : Code} {D : va_G} {aC : Nat → ClassId} {ad : Nat → Nat → Nat} {X : Nat → Nat → Prop} {S A : sS} {G : sG} {H : Heap} {locs : List Loc} (C0 : s_C p s m args meth c b6_amount 5 R6 (some .int) D aC) (hB : s_B D aC ad X (s_N ad X) S A G s.heap H locs) (hX : xC X G) (x1 : Int32) (x2 : Int32) (x3 : Int32) (n4 : Nat) (hLb : 0 ≤ (S 15 n4 3).toInt ∧ (S 15 n4 3).toInt ≤ 6) (hn4 : n4 < 64) {ls : Array Slot} (hl : lv_has ls 5 [(0, .ref (ad 0 0)), (1, .int x1), (2, .int x2), (3, .int x3), (4, .ref (ad 15 n4))]) {o : Int32 × sS × sS} (hO : O6_amount_172 S A G x1 x2 x3 n4 = o) : W p l e (rmk 3) s m args below meth c H locs 0 0 (MQ below (s_Qi D aC ad X G o) args s 0 0 (s_N ad X)) (F0 m 172 ls []) := by
  obtain ⟨hx, hb, hml, hown, hw, hK, hr, hlocks⟩ := id C0
  unfold O6_amount_172 at hO
  refine lv_goto (tgt := 202) hx hb d6_amount_172 (by decide) ?_
  exact k6_amount_202 C0 hB hX x1 x2 x3 n4 (hLb) (hn4) (lv_sub hl [0, 1, 2, 3, 4] rfl) (hO)
set_option maxRecDepth 100000 in
set_option maxHeartbeats 4000000 in
theorem k6_amount_192 {p : Program} {l : Launch} {e : Env} {s : State} {m : MethodId} {args : Array Value} {below : List Frame} {meth : Method} {c : Code} {D : va_G} {aC : Nat → ClassId} {ad : Nat → Nat → Nat} {X : Nat → Nat → Prop} {S A : sS} {G : sG} {H : Heap} {locs : List Loc} (C0 : s_C p s m args meth c b6_amount 5 R6 (some .int) D aC) (hB : s_B D aC ad X (s_N ad X) S A G s.heap H locs) (hX : xC X G) (x1 : Int32) (x2 : Int32) (x3 : Int32) (n4 : Nat) (hLb : 0 ≤ (S 15 n4 3).toInt ∧ (S 15 n4 3).toInt ≤ 6) (hn4 : n4 < 64) {ls : Array Slot} (hl : lv_has ls 5 [(0, .ref (ad 0 0)), (1, .int x1), (2, .int x2), (3, .int x3), (4, .ref (ad 15 n4))]) {o : Int32 × sS × sS} (hO : O6_amount_192 S A G x1 x2 x3 n4 = o) : W p l e (rmk 3) s m args below meth c H locs 0 0 (MQ below (s_Qi D aC ad X G o) args s 0 0 (s_N ad X)) (F0 m 192 ls []) := by
  obtain ⟨hx, hb, hml, hown, hw, hK, hr, hlocks⟩ := id C0
  unfold O6_amount_192 at hO
  refine lv_goto (tgt := 202) hx hb d6_amount_192 (by decide) ?_
  exact k6_amount_202 C0 hB hX x1 x2 x3 n4 (hLb) (hn4) (lv_sub hl [0, 1, 2, 3, 4] rfl) (hO)
set_option maxRecDepth 100000 in
set_option maxHeartbeats 4000000 in
theorem k6_amount_0 {p : Program} {l : Launch} {e : Env} {s : State} {m : MethodId} {args : Array Value} {below : List Frame} {meth : Method} {c : Code} {D : va_G} {aC : Nat → ClassId} {ad : Nat → Nat → Nat} {X : Nat → Nat → Prop} {S A : sS} {G : sG} {H : Heap} {locs : List Loc} (C0 : s_C p s m args meth c b6_amount 5 R6 (some .int) D aC) (hB : s_B D aC ad X (s_N ad X) S A G s.heap H locs) (hX : xC X G) (x1 : Int32) (x2 : Int32) (x3 : Int32) (hlo : ∀ i, i < 64 → 0 ≤ (S 15 i 3).toInt ∧ (S 15 i 3).toInt ≤ 6) (hsz : 0 ≤ (S 6 0 1).toInt ∧ (S 6 0 1).toInt ≤ 300) (hsb : ¬ S 5 0 0 = -1 → 0 ≤ (S 5 0 1).toInt ∧ (S 5 0 1).toInt < 64) (hst : S 5 0 0 = 0 → (0 ≤ (S 5 0 2).toInt ∧ (S 5 0 2).toInt < 60) ∧ ¬ G 4 (S 5 0 2).toNatClampNeg = none) {ls : Array Slot} (hl : lv_has ls 5 [(0, .ref (ad 0 0)), (1, .int x1), (2, .int x2), (3, .int x3)]) {o : Int32 × sS × sS} (hO : O6_amount S A G x1 x2 x3 = o) : W p l e (rmk 3) s m args below meth c H locs 0 0 (MQ below (s_Qi D aC ad X G o) args s 0 0 (s_N ad X)) (F0 m 0 ls []) := by
  obtain ⟨hx, hb, hml, hown, hw, hK, hr, hlocks⟩ := id C0
  unfold O6_amount at hO
  refine lv_aload_n hx hb d6_amount_0 rfl (lv_at hl 0 rfl) ?_
  refine lv_iload_n hx hb d6_amount_1 rfl (lv_at hl 1 rfl) ?_
  refine lv_iload_n hx hb d6_amount_2 rfl (lv_at hl 2 rfl) ?_
  refine lv_iload_n hx hb d6_amount_3 rfl (lv_at hl 3 rfl) ?_
  refine sr_vp C0 hB (m6_isAmount hX x1 x2 x3 (by  first | assumption | omega)) (hX.1 0 (by decide)) cf_0 ml_6_181 im_6_isAmount se_6_isAmount in_6 cd_6_isAmount hd6_isAmount ⟨⟨rfl, rfl⟩, by decide, by decide⟩ ⟨Nat.zero_le _, Nat.zero_le _⟩ hl.1 rfl (Nat.le_of_ble_eq_true rfl) d6_amount_4 ?_
  refine lv_if_ne (tgt := 12) hx hb d6_amount_7 (by decide) (fun c_1 => ?_) (fun c_1 => ?_)
  · refine lv_aload_n hx hb d6_amount_12 rfl (lv_at hl 0 rfl) ?_
    refine sr_get (v := .int (S 0 0 9)) hx hb hw hown hK hB 9 (hX.1 0 (by decide)) cf_0 us6 (by decide) fl_6_58 (rfl) d6_amount_13 ?_
    refine lv_iconst (v := (-1)) hx hb d6_amount_16 (by decide) ?_
    refine lv_icmp_ne (tgt := 23) hx hb d6_amount_17 (by decide) (fun c_2 => ?_) (fun c_2 => ?_)
    · refine lv_aload_n hx hb d6_amount_23 rfl (lv_at hl 0 rfl) ?_
      refine sr_get (v := .ref (ad 5 0)) hx hb hw hown hK hB 4 (hX.1 0 (by decide)) cf_0 us6 (by decide) fl_6_36 (rfl) d6_amount_24 ?_
      refine sr_vp C0 hB (m4_takesAmount hX  ) (hX.1 5 (by decide)) cf_5 ml_6_185 im_4_takesAmount se_4_takesAmount in_4 cd_4_takesAmount hd4_takesAmount ⟨⟨rfl, rfl⟩, by decide, by decide⟩ ⟨Nat.zero_le _, Nat.zero_le _⟩ hl.1 rfl (Nat.le_of_ble_eq_true rfl) d6_amount_27 ?_
      refine lv_if_ne (tgt := 36) hx hb d6_amount_30 (by decide) (fun c_3 => ?_) (fun c_3 => ?_)
      · refine lv_aload_n hx hb d6_amount_36 rfl (lv_at hl 0 rfl) ?_
        refine sr_get (v := .ref (ad 5 0)) hx hb hw hown hK hB 4 (hX.1 0 (by decide)) cf_0 us6 (by decide) fl_6_36 (rfl) d6_amount_37 ?_
        refine sr_get (v := .int (S 5 0 0)) hx hb hw hown hK hB 0 (hX.1 5 (by decide)) cf_5 us4 (by decide) fl_6_188 (rfl) d6_amount_40 ?_
        refine lv_if_ne (tgt := 68) hx hb d6_amount_43 (by decide) (fun c_4 => ?_) (fun c_4 => ?_)
        · refine lv_aload_n hx hb d6_amount_68 rfl (lv_at hl 0 rfl) ?_
          refine sr_get (v := .ref (ad 3 0)) hx hb hw hown hK hB 2 (hX.1 0 (by decide)) cf_0 us6 (by decide) fl_6_23 (rfl) d6_amount_69 ?_
          refine lv_aload_n hx hb d6_amount_72 rfl (lv_at hl 0 rfl) ?_
          refine sr_get (v := .ref (ad 5 0)) hx hb hw hown hK hB 4 (hX.1 0 (by decide)) cf_0 us6 (by decide) fl_6_36 (rfl) d6_amount_73 ?_
          refine sr_get (v := .int (S 5 0 1)) hx hb hw hown hK hB 1 (hX.1 5 (by decide)) cf_5 us4 (by decide) fl_6_165 (rfl) d6_amount_76 ?_
          refine sr_aald (v := some ((S 5 0 1).toNatClampNeg)) hx hb hK hB (hX.1 3 (by decide)) rfl rfl rfl (by (refine vp_in_iff.mpr ?_); (show 0 ≤ (S 5 0 1).toInt ∧ (S 5 0 1).toInt < ((64 : Nat) : Int)); (have qs := hsb (takesAmount_t c_3));  omega) d6_amount_79 (by exact gb hX (show (S 5 0 1).toNatClampNeg < 64 by (have qs := hsb (takesAmount_t c_3)); (have cc9 := cl_i (x := S 5 0 1) (by omega));  omega)) ?_
          refine lv_astore (lv' := [(4, .ref (ad 15 ((S 5 0 1).toNatClampNeg))), (0, .ref (ad 0 0)), (1, .int x1), (2, .int x2), (3, .int x3)]) hx hb d6_amount_80 hl (by decide) rfl (fun ls hl => ?_)
          refine lv_aload_n hx hb d6_amount_82 rfl (lv_at hl 1 rfl) ?_
          refine sr_get (v := .ref (ad 5 0)) hx hb hw hown hK hB 4 (hX.1 0 (by decide)) cf_0 us6 (by decide) fl_6_36 (rfl) d6_amount_83 ?_
          refine sr_get (v := .int (S 5 0 0)) hx hb hw hown hK hB 0 (hX.1 5 (by decide)) cf_5 us4 (by decide) fl_6_188 (rfl) d6_amount_86 ?_
          refine lv_if_ne (tgt := 105) hx hb d6_amount_89 (by decide) (fun _ => ?_) (fun c => absurd c c_4)
          refine lv_aload_n hx hb d6_amount_105 rfl (lv_at hl 1 rfl) ?_
          refine sr_get (v := .ref (ad 5 0)) hx hb hw hown hK hB 4 (hX.1 0 (by decide)) cf_0 us6 (by decide) fl_6_36 (rfl) d6_amount_106 ?_
          refine sr_get (v := .int (S 5 0 0)) hx hb hw hown hK hB 0 (hX.1 5 (by decide)) cf_5 us4 (by decide) fl_6_188 (rfl) d6_amount_109 ?_
          refine lv_iconst (v := 3) hx hb d6_amount_112 (by decide) ?_
          refine lv_icmp_ne (tgt := 136) hx hb d6_amount_113 (by decide) (fun c_6 => ?_) (fun c_6 => ?_)
          · refine lv_aload_n hx hb d6_amount_136 rfl (lv_at hl 1 rfl) ?_
            refine sr_get (v := .ref (ad 6 0)) hx hb hw hown hK hB 5 (hX.1 0 (by decide)) cf_0 us6 (by decide) fl_6_43 (rfl) d6_amount_137 ?_
            refine sr_get (v := .int (S 6 0 1)) hx hb hw hown hK hB 1 (hX.1 6 (by decide)) cf_6 us2 (by decide) fl_6_146 (rfl) d6_amount_140 ?_
            refine lv_sipush (v := 300) hx hb d6_amount_143 (by decide) ?_
            refine lv_icmp_lt (tgt := 152) hx hb d6_amount_146 (by decide) (fun c_7 => ?_) (fun c_7 => ?_)
            · refine lv_aload_n hx hb d6_amount_152 rfl (lv_at hl 1 rfl) ?_
              refine sr_get (v := .ref (ad 5 0)) hx hb hw hown hK hB 4 (hX.1 0 (by decide)) cf_0 us6 (by decide) fl_6_36 (rfl) d6_amount_153 ?_
              refine sr_get (v := .int (S 5 0 0)) hx hb hw hown hK hB 0 (hX.1 5 (by decide)) cf_5 us4 (by decide) fl_6_188 (rfl) d6_amount_156 ?_
              refine lv_iconst (v := 1) hx hb d6_amount_159 (by decide) ?_
              refine lv_icmp_ne (tgt := 175) hx hb d6_amount_160 (by decide) (fun c_8 => ?_) (fun c_8 => ?_)
              · refine lv_aload_n hx hb d6_amount_175 rfl (lv_at hl 1 rfl) ?_
                refine sr_get (v := .ref (ad 5 0)) hx hb hw hown hK hB 4 (hX.1 0 (by decide)) cf_0 us6 (by decide) fl_6_36 (rfl) d6_amount_176 ?_
                refine sr_get (v := .int (S 5 0 0)) hx hb hw hown hK hB 0 (hX.1 5 (by decide)) cf_5 us4 (by decide) fl_6_188 (rfl) d6_amount_179 ?_
                refine lv_if_ne (tgt := 195) hx hb d6_amount_182 (by decide) (fun _ => ?_) (fun c => absurd c c_4)
                refine lv_aload_n hx hb d6_amount_195 rfl (lv_at hl 1 rfl) ?_
                refine lv_aload hx hb d6_amount_196 (lv_at hl 0 rfl) ?_
                refine lv_iload_n hx hb d6_amount_198 rfl (lv_at hl 2 rfl) ?_
                refine sr_vv C0 hB (m6_wasteFrom hX ((S 5 0 1).toNatClampNeg) x1 (by (have qs := hsb (takesAmount_t c_3)); (have q9 := cl_i qs.1); omega) (hlo _ (by (have qs := hsb (takesAmount_t c_3)); (have q9 := cl_i qs.1); omega)) (by (have kc_7 := lt_i c_7); (have l0 : (0 : Int32).toInt = 0 := rfl); (have l1 : (1 : Int32).toInt = 1 := rfl); (have l300 : (300 : Int32).toInt = 300 := rfl); (have l6 : (6 : Int32).toInt = 6 := rfl);  first | assumption | omega)) (hX.1 0 (by decide)) cf_0 ml_6_206 im_6_wasteFrom se_6_wasteFrom in_6 cd_6_wasteFrom hd6_wasteFrom ⟨⟨rfl, rfl⟩, by decide, by decide⟩ ⟨Nat.zero_le _, Nat.zero_le _⟩ hl.1 rfl (Nat.le_of_ble_eq_true rfl) d6_amount_199 (fun H locs hB => ?_)
                exact k6_amount_202 C0 hB hX x1 x2 x3 ((S 5 0 1).toNatClampNeg) (wasteFrom_l (hlo _ (by (have qs := hsb (takesAmount_t c_3)); (have q9 := cl_i qs.1); omega))) ((show (S 5 0 1).toNatClampNeg < 64 by (have qs := hsb (takesAmount_t c_3)); (have cc9 := cl_i (x := S 5 0 1) (by omega));  omega)) (lv_sub hl [1, 2, 3, 4, 0] rfl) (by rw [if_neg c_1, if_neg c_2, if_neg c_3, if_neg c_4, if_neg c_6, if_pos c_7, if_neg c_8] at hO; exact hO)
              · refine lv_aload_n hx hb d6_amount_163 rfl (lv_at hl 1 rfl) ?_
                refine lv_aload hx hb d6_amount_164 (lv_at hl 0 rfl) ?_
                refine lv_iload_n hx hb d6_amount_166 rfl (lv_at hl 2 rfl) ?_
                refine lv_iload_n hx hb d6_amount_167 rfl (lv_at hl 3 rfl) ?_
                refine lv_iload_n hx hb d6_amount_168 rfl (lv_at hl 4 rfl) ?_
                refine sr_vv C0 hB (m6_letIn hX ((S 5 0 1).toNatClampNeg) x1 x2 x3 (by (have qs := hsb (takesAmount_t c_3)); (have q9 := cl_i qs.1); omega) (hlo _ (by (have qs := hsb (takesAmount_t c_3)); (have q9 := cl_i qs.1); omega)) (by (have kc_7 := lt_i c_7); (have l0 : (0 : Int32).toInt = 0 := rfl); (have l1 : (1 : Int32).toInt = 1 := rfl); (have l300 : (300 : Int32).toInt = 300 := rfl); (have l6 : (6 : Int32).toInt = 6 := rfl);  first | assumption | omega)) (hX.1 0 (by decide)) cf_0 ml_6_198 im_6_letIn se_6_letIn in_6 cd_6_letIn hd6_letIn ⟨⟨rfl, rfl⟩, by decide, by decide⟩ ⟨Nat.zero_le _, Nat.zero_le _⟩ hl.1 rfl (Nat.le_of_ble_eq_true rfl) d6_amount_169 (fun H locs hB => ?_)
                exact k6_amount_172 C0 hB hX x1 x2 x3 ((S 5 0 1).toNatClampNeg) (letIn_l (hlo _ (by (have qs := hsb (takesAmount_t c_3)); (have q9 := cl_i qs.1); omega))) ((show (S 5 0 1).toNatClampNeg < 64 by (have qs := hsb (takesAmount_t c_3)); (have cc9 := cl_i (x := S 5 0 1) (by omega));  omega)) (lv_sub hl [1, 2, 3, 4, 0] rfl) (by rw [if_neg c_1, if_neg c_2, if_neg c_3, if_neg c_4, if_neg c_6, if_pos c_7, if_pos c_8] at hO; exact hO)
            · refine lv_bipush (v := (-8)) hx hb d6_amount_149 (by decide) ?_
              exact se_i C0 hB (by rw [if_neg c_1, if_neg c_2, if_neg c_3, if_neg c_4, if_neg c_6, if_neg c_7] at hO; exact hO) d6_amount_151
          · refine lv_iload_n hx hb d6_amount_116 rfl (lv_at hl 2 rfl) ?_
            refine lv_aload hx hb d6_amount_117 (lv_at hl 0 rfl) ?_
            refine sr_vp C0 hB (m0_book hX ((S 5 0 1).toNatClampNeg) (by (have qs := hsb (takesAmount_t c_3)); (have q9 := cl_i qs.1); omega) (hlo _ (by (have qs := hsb (takesAmount_t c_3)); (have q9 := cl_i qs.1); omega))) (hX.2.2.1 ((S 5 0 1).toNatClampNeg) (show (S 5 0 1).toNatClampNeg < 64 by (have qs := hsb (takesAmount_t c_3)); (have cc9 := cl_i (x := S 5 0 1) (by omega));  omega)).1 cf_15 ml_6_194 im_0_book se_0_book in_0 cd_0_book hd0_book ⟨⟨rfl, rfl⟩, by decide, by decide⟩ ⟨Nat.zero_le _, Nat.zero_le _⟩ hl.1 rfl (Nat.le_of_ble_eq_true rfl) d6_amount_119 ?_
            refine lv_icmp_le (tgt := 136) hx hb d6_amount_122 (by decide) (fun c_10 => ?_) (fun c_10 => ?_)
            · refine lv_aload_n hx hb d6_amount_136 rfl (lv_at hl 1 rfl) ?_
              refine sr_get (v := .ref (ad 6 0)) hx hb hw hown hK hB 5 (hX.1 0 (by decide)) cf_0 us6 (by decide) fl_6_43 (rfl) d6_amount_137 ?_
              refine sr_get (v := .int (S 6 0 1)) hx hb hw hown hK hB 1 (hX.1 6 (by decide)) cf_6 us2 (by decide) fl_6_146 (rfl) d6_amount_140 ?_
              refine lv_sipush (v := 300) hx hb d6_amount_143 (by decide) ?_
              refine lv_icmp_lt (tgt := 152) hx hb d6_amount_146 (by decide) (fun c_11 => ?_) (fun c_11 => ?_)
              · refine lv_aload_n hx hb d6_amount_152 rfl (lv_at hl 1 rfl) ?_
                refine sr_get (v := .ref (ad 5 0)) hx hb hw hown hK hB 4 (hX.1 0 (by decide)) cf_0 us6 (by decide) fl_6_36 (rfl) d6_amount_153 ?_
                refine sr_get (v := .int (S 5 0 0)) hx hb hw hown hK hB 0 (hX.1 5 (by decide)) cf_5 us4 (by decide) fl_6_188 (rfl) d6_amount_156 ?_
                refine lv_iconst (v := 1) hx hb d6_amount_159 (by decide) ?_
                refine lv_icmp_ne (tgt := 175) hx hb d6_amount_160 (by decide) (fun _ => ?_) (fun c => absurd c (by rw [c_6]; decide))
                refine lv_aload_n hx hb d6_amount_175 rfl (lv_at hl 1 rfl) ?_
                refine sr_get (v := .ref (ad 5 0)) hx hb hw hown hK hB 4 (hX.1 0 (by decide)) cf_0 us6 (by decide) fl_6_36 (rfl) d6_amount_176 ?_
                refine sr_get (v := .int (S 5 0 0)) hx hb hw hown hK hB 0 (hX.1 5 (by decide)) cf_5 us4 (by decide) fl_6_188 (rfl) d6_amount_179 ?_
                refine lv_if_ne (tgt := 195) hx hb d6_amount_182 (by decide) (fun _ => ?_) (fun c => absurd c c_4)
                refine lv_aload_n hx hb d6_amount_195 rfl (lv_at hl 1 rfl) ?_
                refine lv_aload hx hb d6_amount_196 (lv_at hl 0 rfl) ?_
                refine lv_iload_n hx hb d6_amount_198 rfl (lv_at hl 2 rfl) ?_
                refine sr_vv C0 hB (m6_wasteFrom hX ((S 5 0 1).toNatClampNeg) x1 (by (have qs := hsb (takesAmount_t c_3)); (have q9 := cl_i qs.1); omega) (hlo _ (by (have qs := hsb (takesAmount_t c_3)); (have q9 := cl_i qs.1); omega)) (by (have kc_10 := le_i c_10); (have kc_11 := lt_i c_11); (have l0 : (0 : Int32).toInt = 0 := rfl); (have l1 : (1 : Int32).toInt = 1 := rfl); (have l300 : (300 : Int32).toInt = 300 := rfl); (have l5 : (5 : Int32).toInt = 5 := rfl); (have l6 : (6 : Int32).toInt = 6 := rfl);  first | assumption | omega)) (hX.1 0 (by decide)) cf_0 ml_6_206 im_6_wasteFrom se_6_wasteFrom in_6 cd_6_wasteFrom hd6_wasteFrom ⟨⟨rfl, rfl⟩, by decide, by decide⟩ ⟨Nat.zero_le _, Nat.zero_le _⟩ hl.1 rfl (Nat.le_of_ble_eq_true rfl) d6_amount_199 (fun H locs hB => ?_)
                exact k6_amount_202 C0 hB hX x1 x2 x3 ((S 5 0 1).toNatClampNeg) (wasteFrom_l (hlo _ (by (have qs := hsb (takesAmount_t c_3)); (have q9 := cl_i qs.1); omega))) ((show (S 5 0 1).toNatClampNeg < 64 by (have qs := hsb (takesAmount_t c_3)); (have cc9 := cl_i (x := S 5 0 1) (by omega));  omega)) (lv_sub hl [1, 2, 3, 4, 0] rfl) (by rw [if_neg c_1, if_neg c_2, if_neg c_3, if_neg c_4, if_pos c_6, if_pos c_10, if_pos c_11] at hO; exact hO)
              · refine lv_bipush (v := (-8)) hx hb d6_amount_149 (by decide) ?_
                exact se_i C0 hB (by rw [if_neg c_1, if_neg c_2, if_neg c_3, if_neg c_4, if_pos c_6, if_pos c_10, if_neg c_11] at hO; exact hO) d6_amount_151
            · refine lv_aload_n hx hb d6_amount_125 rfl (lv_at hl 1 rfl) ?_
              refine sr_get (v := .ref (ad 5 0)) hx hb hw hown hK hB 4 (hX.1 0 (by decide)) cf_0 us6 (by decide) fl_6_36 (rfl) d6_amount_126 ?_
              refine lv_iconst (v := 1) hx hb d6_amount_129 (by decide) ?_
              refine sr_put hx hb hw hown hK hB 4 (hX.1 5 (by decide)) cf_5 us4 tk4 nm4 (by decide) fl_6_159 rfl rfl rfl rfl d6_amount_130 (fun H locs hB => ?_)
              refine lv_bipush (v := (-7)) hx hb d6_amount_133 (by decide) ?_
              exact se_i C0 hB (by rw [if_neg c_1, if_neg c_2, if_neg c_3, if_neg c_4, if_pos c_6, if_neg c_10] at hO; exact hO) d6_amount_135
        · refine lv_iload_n hx hb d6_amount_46 rfl (lv_at hl 1 rfl) ?_
          refine lv_aload_n hx hb d6_amount_47 rfl (lv_at hl 0 rfl) ?_
          refine sr_get (v := .ref (ad 4 0)) hx hb hw hown hK hB 3 (hX.1 0 (by decide)) cf_0 us6 (by decide) fl_6_29 (rfl) d6_amount_48 ?_
          refine lv_aload_n hx hb d6_amount_51 rfl (lv_at hl 0 rfl) ?_
          refine sr_get (v := .ref (ad 5 0)) hx hb hw hown hK hB 4 (hX.1 0 (by decide)) cf_0 us6 (by decide) fl_6_36 (rfl) d6_amount_52 ?_
          refine sr_get (v := .int (S 5 0 2)) hx hb hw hown hK hB 2 (hX.1 5 (by decide)) cf_5 us4 (by decide) fl_6_114 (rfl) d6_amount_55 ?_
          refine sr_aald (v := some ((S 5 0 2).toNatClampNeg)) hx hb hK hB (hX.1 4 (by decide)) rfl rfl rfl (by (refine vp_in_iff.mpr ?_); (show 0 ≤ (S 5 0 2).toInt ∧ (S 5 0 2).toInt < ((60 : Nat) : Int)); (have qs := (hst (by assumption)).1);  omega) d6_amount_58 (by exact (go hX (i := (S 5 0 2).toNatClampNeg) ((hst (by assumption)).2)).1) ?_
          refine sr_get (v := .int (S 14 ((S 5 0 2).toNatClampNeg) 3)) hx hb hw hown hK hB 3 (go hX (i := (S 5 0 2).toNatClampNeg) ((hst (by assumption)).2)).2 cf_14 us3 (by decide) fl_6_123 (rfl) d6_amount_59 ?_
          refine lv_icmp_le (tgt := 68) hx hb d6_amount_62 (by decide) (fun c_14 => ?_) (fun c_14 => ?_)
          · refine lv_aload_n hx hb d6_amount_68 rfl (lv_at hl 0 rfl) ?_
            refine sr_get (v := .ref (ad 3 0)) hx hb hw hown hK hB 2 (hX.1 0 (by decide)) cf_0 us6 (by decide) fl_6_23 (rfl) d6_amount_69 ?_
            refine lv_aload_n hx hb d6_amount_72 rfl (lv_at hl 0 rfl) ?_
            refine sr_get (v := .ref (ad 5 0)) hx hb hw hown hK hB 4 (hX.1 0 (by decide)) cf_0 us6 (by decide) fl_6_36 (rfl) d6_amount_73 ?_
            refine sr_get (v := .int (S 5 0 1)) hx hb hw hown hK hB 1 (hX.1 5 (by decide)) cf_5 us4 (by decide) fl_6_165 (rfl) d6_amount_76 ?_
            refine sr_aald (v := some ((S 5 0 1).toNatClampNeg)) hx hb hK hB (hX.1 3 (by decide)) rfl rfl rfl (by (refine vp_in_iff.mpr ?_); (show 0 ≤ (S 5 0 1).toInt ∧ (S 5 0 1).toInt < ((64 : Nat) : Int)); (have qs := hsb (takesAmount_t c_3));  omega) d6_amount_79 (by exact gb hX (show (S 5 0 1).toNatClampNeg < 64 by (have qs := hsb (takesAmount_t c_3)); (have cc9 := cl_i (x := S 5 0 1) (by omega));  omega)) ?_
            refine lv_astore (lv' := [(4, .ref (ad 15 ((S 5 0 1).toNatClampNeg))), (0, .ref (ad 0 0)), (1, .int x1), (2, .int x2), (3, .int x3)]) hx hb d6_amount_80 hl (by decide) rfl (fun ls hl => ?_)
            refine lv_aload_n hx hb d6_amount_82 rfl (lv_at hl 1 rfl) ?_
            refine sr_get (v := .ref (ad 5 0)) hx hb hw hown hK hB 4 (hX.1 0 (by decide)) cf_0 us6 (by decide) fl_6_36 (rfl) d6_amount_83 ?_
            refine sr_get (v := .int (S 5 0 0)) hx hb hw hown hK hB 0 (hX.1 5 (by decide)) cf_5 us4 (by decide) fl_6_188 (rfl) d6_amount_86 ?_
            refine lv_if_ne (tgt := 105) hx hb d6_amount_89 (by decide) (fun c => absurd c_4 c) (fun _ => ?_)
            refine lv_iload_n hx hb d6_amount_92 rfl (lv_at hl 2 rfl) ?_
            refine lv_aload hx hb d6_amount_93 (lv_at hl 0 rfl) ?_
            refine lv_aload_n hx hb d6_amount_95 rfl (lv_at hl 1 rfl) ?_
            refine sr_get (v := .int (S 0 0 8)) hx hb hw hown hK hB 8 (hX.1 0 (by decide)) cf_0 us6 (by decide) fl_6_54 (rfl) d6_amount_96 ?_
            refine sr_vp C0 hB (m0_given hX ((S 5 0 1).toNatClampNeg) (S 0 0 8) (by (have qs := hsb (takesAmount_t c_3)); (have q9 := cl_i qs.1); omega) (hlo _ (by (have qs := hsb (takesAmount_t c_3)); (have q9 := cl_i qs.1); omega))) (hX.2.2.1 ((S 5 0 1).toNatClampNeg) (show (S 5 0 1).toNatClampNeg < 64 by (have qs := hsb (takesAmount_t c_3)); (have cc9 := cl_i (x := S 5 0 1) (by omega));  omega)).1 cf_15 ml_6_191 im_0_given se_0_given in_0 cd_0_given hd0_given ⟨⟨rfl, rfl⟩, by decide, by decide⟩ ⟨Nat.zero_le _, Nat.zero_le _⟩ hl.1 rfl (Nat.le_of_ble_eq_true rfl) d6_amount_99 ?_
            refine lv_icmp_gt (tgt := 125) hx hb d6_amount_102 (by decide) (fun c_16 => ?_) (fun c_16 => ?_)
            · refine lv_aload_n hx hb d6_amount_125 rfl (lv_at hl 1 rfl) ?_
              refine sr_get (v := .ref (ad 5 0)) hx hb hw hown hK hB 4 (hX.1 0 (by decide)) cf_0 us6 (by decide) fl_6_36 (rfl) d6_amount_126 ?_
              refine lv_iconst (v := 1) hx hb d6_amount_129 (by decide) ?_
              refine sr_put hx hb hw hown hK hB 4 (hX.1 5 (by decide)) cf_5 us4 tk4 nm4 (by decide) fl_6_159 rfl rfl rfl rfl d6_amount_130 (fun H locs hB => ?_)
              refine lv_bipush (v := (-7)) hx hb d6_amount_133 (by decide) ?_
              exact se_i C0 hB (by rw [if_neg c_1, if_neg c_2, if_neg c_3, if_pos c_4, if_pos c_14, if_pos c_16] at hO; exact hO) d6_amount_135
            · refine lv_aload_n hx hb d6_amount_105 rfl (lv_at hl 1 rfl) ?_
              refine sr_get (v := .ref (ad 5 0)) hx hb hw hown hK hB 4 (hX.1 0 (by decide)) cf_0 us6 (by decide) fl_6_36 (rfl) d6_amount_106 ?_
              refine sr_get (v := .int (S 5 0 0)) hx hb hw hown hK hB 0 (hX.1 5 (by decide)) cf_5 us4 (by decide) fl_6_188 (rfl) d6_amount_109 ?_
              refine lv_iconst (v := 3) hx hb d6_amount_112 (by decide) ?_
              refine lv_icmp_ne (tgt := 136) hx hb d6_amount_113 (by decide) (fun _ => ?_) (fun c => absurd c (by rw [c_4]; decide))
              refine lv_aload_n hx hb d6_amount_136 rfl (lv_at hl 1 rfl) ?_
              refine sr_get (v := .ref (ad 6 0)) hx hb hw hown hK hB 5 (hX.1 0 (by decide)) cf_0 us6 (by decide) fl_6_43 (rfl) d6_amount_137 ?_
              refine sr_get (v := .int (S 6 0 1)) hx hb hw hown hK hB 1 (hX.1 6 (by decide)) cf_6 us2 (by decide) fl_6_146 (rfl) d6_amount_140 ?_
              refine lv_sipush (v := 300) hx hb d6_amount_143 (by decide) ?_
              refine lv_icmp_lt (tgt := 152) hx hb d6_amount_146 (by decide) (fun c_18 => ?_) (fun c_18 => ?_)
              · refine lv_aload_n hx hb d6_amount_152 rfl (lv_at hl 1 rfl) ?_
                refine sr_get (v := .ref (ad 5 0)) hx hb hw hown hK hB 4 (hX.1 0 (by decide)) cf_0 us6 (by decide) fl_6_36 (rfl) d6_amount_153 ?_
                refine sr_get (v := .int (S 5 0 0)) hx hb hw hown hK hB 0 (hX.1 5 (by decide)) cf_5 us4 (by decide) fl_6_188 (rfl) d6_amount_156 ?_
                refine lv_iconst (v := 1) hx hb d6_amount_159 (by decide) ?_
                refine lv_icmp_ne (tgt := 175) hx hb d6_amount_160 (by decide) (fun _ => ?_) (fun c => absurd c (by rw [c_4]; decide))
                refine lv_aload_n hx hb d6_amount_175 rfl (lv_at hl 1 rfl) ?_
                refine sr_get (v := .ref (ad 5 0)) hx hb hw hown hK hB 4 (hX.1 0 (by decide)) cf_0 us6 (by decide) fl_6_36 (rfl) d6_amount_176 ?_
                refine sr_get (v := .int (S 5 0 0)) hx hb hw hown hK hB 0 (hX.1 5 (by decide)) cf_5 us4 (by decide) fl_6_188 (rfl) d6_amount_179 ?_
                refine lv_if_ne (tgt := 195) hx hb d6_amount_182 (by decide) (fun c => absurd c_4 c) (fun _ => ?_)
                refine lv_aload_n hx hb d6_amount_185 rfl (lv_at hl 1 rfl) ?_
                refine lv_aload hx hb d6_amount_186 (lv_at hl 0 rfl) ?_
                refine lv_iload_n hx hb d6_amount_188 rfl (lv_at hl 2 rfl) ?_
                refine sr_vv C0 hB (m6_takeOut hX ((S 5 0 1).toNatClampNeg) x1 (by (have qs := hsb (takesAmount_t c_3)); (have q9 := cl_i qs.1); omega) (hlo _ (by (have qs := hsb (takesAmount_t c_3)); (have q9 := cl_i qs.1); omega)) (by (have kc_14 := le_i c_14); (have kc_16 := nlt_i c_16); (have kc_18 := lt_i c_18); (have l0 : (0 : Int32).toInt = 0 := rfl); (have l1 : (1 : Int32).toInt = 1 := rfl); (have l14 : (14 : Int32).toInt = 14 := rfl); (have l2 : (2 : Int32).toInt = 2 := rfl); (have l3 : (3 : Int32).toInt = 3 := rfl); (have l300 : (300 : Int32).toInt = 300 := rfl); (have l5 : (5 : Int32).toInt = 5 := rfl); (have l6 : (6 : Int32).toInt = 6 := rfl); (have l8 : (8 : Int32).toInt = 8 := rfl);  first | assumption | omega) (hst (by assumption))) (hX.1 0 (by decide)) cf_0 ml_6_202 im_6_takeOut se_6_takeOut in_6 cd_6_takeOut hd6_takeOut ⟨⟨rfl, rfl⟩, by decide, by decide⟩ ⟨Nat.zero_le _, Nat.zero_le _⟩ hl.1 rfl (Nat.le_of_ble_eq_true rfl) d6_amount_189 (fun H locs hB => ?_)
                exact k6_amount_192 C0 hB hX x1 x2 x3 ((S 5 0 1).toNatClampNeg) (takeOut_l (hlo _ (by (have qs := hsb (takesAmount_t c_3)); (have q9 := cl_i qs.1); omega))) ((show (S 5 0 1).toNatClampNeg < 64 by (have qs := hsb (takesAmount_t c_3)); (have cc9 := cl_i (x := S 5 0 1) (by omega));  omega)) (lv_sub hl [1, 2, 3, 4, 0] rfl) (by rw [if_neg c_1, if_neg c_2, if_neg c_3, if_pos c_4, if_pos c_14, if_neg c_16, if_pos c_18] at hO; exact hO)
              · refine lv_bipush (v := (-8)) hx hb d6_amount_149 (by decide) ?_
                exact se_i C0 hB (by rw [if_neg c_1, if_neg c_2, if_neg c_3, if_pos c_4, if_pos c_14, if_neg c_16, if_neg c_18] at hO; exact hO) d6_amount_151
          · refine lv_bipush (v := (-6)) hx hb d6_amount_65 (by decide) ?_
            exact se_i C0 hB (by rw [if_neg c_1, if_neg c_2, if_neg c_3, if_pos c_4, if_neg c_14] at hO; exact hO) d6_amount_67
      · refine lv_bipush (v := (-4)) hx hb d6_amount_33 (by decide) ?_
        exact se_i C0 hB (by rw [if_neg c_1, if_neg c_2, if_pos c_3] at hO; exact hO) d6_amount_35
    · refine lv_bipush (v := (-2)) hx hb d6_amount_20 (by decide) ?_
      exact se_i C0 hB (by rw [if_neg c_1, if_pos c_2] at hO; exact hO) d6_amount_22
  · refine lv_iconst (v := (-1)) hx hb d6_amount_10 (by decide) ?_
    exact se_i C0 hB (by rw [if_pos c_1] at hO; exact hO) d6_amount_11
theorem hd6_amount : y6_amount.cls = R6 ∧ y6_amount.cls ≠ "java/lang/invoke/MethodHandle" ∧ y6_amount.cls ≠ "java/lang/invoke/VarHandle" ∧ (parseMethodDescriptor y6_amount.desc).map (fun d => d.parameters.length) = some 3 := ⟨rfl, by decide, by decide, by decide +kernel⟩
theorem m6_amount {l : Launch} {D : va_G} {aC : Nat → ClassId} {ad : Nat → Nat → Nat} {X : Nat → Nat → Prop} {S A : sS} {G : sG} (hX : xC X G) (x1 : Int32) (x2 : Int32) (x3 : Int32) (hlo : ∀ i, i < 64 → 0 ≤ (S 15 i 3).toInt ∧ (S 15 i 3).toInt ≤ 6) (hsz : 0 ≤ (S 6 0 1).toInt ∧ (S 6 0 1).toInt ≤ 300) (hsb : ¬ S 5 0 0 = -1 → 0 ≤ (S 5 0 1).toInt ∧ (S 5 0 1).toInt < 64) (hst : S 5 0 0 = 0 → (0 ≤ (S 5 0 2).toInt ∧ (S 5 0 2).toInt < 60) ∧ ¬ G 4 (S 5 0 2).toNatClampNeg = none) : Met l y6_amount (.code y6_amount b6_amount 5 (some .int) :: wall) (rmk 3) (s_Pc [.ref (ad 0 0), .int x1, .int x2, .int x3] D aC ad X S A G) (s_Qi D aC ad X G (O6_amount S A G x1 x2 x3)) 0 0 (s_N ad X) :=
  s_met (by decide) rfl (Nat.le_of_ble_eq_true rfl) (fun p e s m args below meth c C0 hB ls hl => k6_amount_0 C0 hB hX x1 x2 x3 hlo hsz hsb hst hl rfl)

def O6_count_129 (S A : sS) (G : sG) (x1 : Int32) (n2 : Nat) : Int32 × sS × sS := (S 15 n2 4, S, A)
def O6_count_125 (S A : sS) (G : sG) (x1 : Int32) (n2 : Nat) : Int32 × sS × sS := O6_count_129 (O6_accept S A G ).1 (O6_accept S A G ).2 G x1 n2
def O6_count_75 (S A : sS) (G : sG) (x1 : Int32) (n2 : Nat) : Int32 × sS × sS := O6_count_125 (O2_write (up3 (up3 S 5 0 5 1) 5 0 4 0) A G 3 (S 0 0 8) (S 0 0 9) (S 5 0 1) (S 15 n2 4) (S 5 0 2)).1 (O2_write (up3 (up3 S 5 0 5 1) 5 0 4 0) A G 3 (S 0 0 8) (S 0 0 9) (S 5 0 1) (S 15 n2 4) (S 5 0 2)).2 G x1 n2
def O6_count (S A : sS) (G : sG) (x1 : Int32) : Int32 × sS × sS := if x1 < 0 then ((-1), S, A) else if x1 ≤ 10000 then if S 0 0 9 = (-1) then ((-2), S, A) else if V4_takesCount S A G  = 0 then ((-4), S, A) else if S 6 0 1 < 300 then O6_count_75 (O0_correctTo S A G ((S 5 0 1).toNatClampNeg) x1 (S 0 0 8)).1 (O0_correctTo S A G ((S 5 0 1).toNatClampNeg) x1 (S 0 0 8)).2 G x1 ((S 5 0 1).toNatClampNeg) else ((-8), S, A) else ((-1), S, A)
set_option maxRecDepth 100000 in
set_option maxHeartbeats 4000000 in
theorem k6_count_129 {p : Program} {l : Launch} {e : Env} {s : State} {m : MethodId} {args : Array Value} {below : List Frame} {meth : Method} {c : Code} {D : va_G} {aC : Nat → ClassId} {ad : Nat → Nat → Nat} {X : Nat → Nat → Prop} {S A : sS} {G : sG} {H : Heap} {locs : List Loc} (C0 : s_C p s m args meth c b6_count 3 R6 (some .int) D aC) (hB : s_B D aC ad X (s_N ad X) S A G s.heap H locs) (hX : xC X G) (x1 : Int32) (n2 : Nat) (hn2 : n2 < 64) {ls : Array Slot} (hl : lv_has ls 3 [(0, .ref (ad 0 0)), (1, .int x1), (2, .ref (ad 15 n2))]) {o : Int32 × sS × sS} (hO : O6_count_129 S A G x1 n2 = o) : W p l e (rmk 3) s m args below meth c H locs 0 0 (MQ below (s_Qi D aC ad X G o) args s 0 0 (s_N ad X)) (F0 m 129 ls []) := by
  obtain ⟨hx, hb, hml, hown, hw, hK, hr, hlocks⟩ := id C0
  unfold O6_count_129 at hO
  refine lv_aload_n hx hb d6_count_129 rfl (lv_at hl 2 rfl) ?_
  refine sr_get (v := .int (S 15 n2 4)) hx hb hw hown hK hB 4 (hX.2.2.1 n2 hn2).1 cf_15 us0 (by decide) fl_6_174 (rfl) d6_count_130 ?_
  exact se_i C0 hB (hO) d6_count_133
set_option maxRecDepth 100000 in
set_option maxHeartbeats 4000000 in
theorem k6_count_125 {p : Program} {l : Launch} {e : Env} {s : State} {m : MethodId} {args : Array Value} {below : List Frame} {meth : Method} {c : Code} {D : va_G} {aC : Nat → ClassId} {ad : Nat → Nat → Nat} {X : Nat → Nat → Prop} {S A : sS} {G : sG} {H : Heap} {locs : List Loc} (C0 : s_C p s m args meth c b6_count 3 R6 (some .int) D aC) (hB : s_B D aC ad X (s_N ad X) S A G s.heap H locs) (hX : xC X G) (x1 : Int32) (n2 : Nat) (hn2 : n2 < 64) {ls : Array Slot} (hl : lv_has ls 3 [(0, .ref (ad 0 0)), (1, .int x1), (2, .ref (ad 15 n2))]) {o : Int32 × sS × sS} (hO : O6_count_125 S A G x1 n2 = o) : W p l e (rmk 3) s m args below meth c H locs 0 0 (MQ below (s_Qi D aC ad X G o) args s 0 0 (s_N ad X)) (F0 m 125 ls []) := by
  obtain ⟨hx, hb, hml, hown, hw, hK, hr, hlocks⟩ := id C0
  unfold O6_count_125 at hO
  refine lv_aload_n hx hb d6_count_125 rfl (lv_at hl 0 rfl) ?_
  refine sr_vv C0 hB (m6_accept hX  ) (hX.1 0 (by decide)) cf_0 ml_6_98 im_6_accept se_6_accept in_6 cd_6_accept hd6_accept ⟨⟨rfl, rfl⟩, by decide, by decide⟩ ⟨Nat.zero_le _, Nat.zero_le _⟩ hl.1 rfl (Nat.le_of_ble_eq_true rfl) d6_count_126 (fun H locs hB => ?_)
  exact k6_count_129 C0 hB hX x1 n2 (hn2) (lv_sub hl [0, 1, 2] rfl) (hO)
set_option maxRecDepth 100000 in
set_option maxHeartbeats 4000000 in
theorem k6_count_75 {p : Program} {l : Launch} {e : Env} {s : State} {m : MethodId} {args : Array Value} {below : List Frame} {meth : Method} {c : Code} {D : va_G} {aC : Nat → ClassId} {ad : Nat → Nat → Nat} {X : Nat → Nat → Prop} {S A : sS} {G : sG} {H : Heap} {locs : List Loc} (C0 : s_C p s m args meth c b6_count 3 R6 (some .int) D aC) (hB : s_B D aC ad X (s_N ad X) S A G s.heap H locs) (hX : xC X G) (x1 : Int32) (n2 : Nat) (hsz : 0 ≤ (S 6 0 1).toInt ∧ (S 6 0 1).toInt ≤ 300) (hn2 : n2 < 64) {ls : Array Slot} (hl : lv_has ls 3 [(0, .ref (ad 0 0)), (1, .int x1), (2, .ref (ad 15 n2))]) {o : Int32 × sS × sS} (hO : O6_count_75 S A G x1 n2 = o) : W p l e (rmk 3) s m args below meth c H locs 0 0 (MQ below (s_Qi D aC ad X G o) args s 0 0 (s_N ad X)) (F0 m 75 ls []) := by
  obtain ⟨hx, hb, hml, hown, hw, hK, hr, hlocks⟩ := id C0
  unfold O6_count_75 at hO
  refine lv_aload_n hx hb d6_count_75 rfl (lv_at hl 0 rfl) ?_
  refine sr_get (v := .ref (ad 5 0)) hx hb hw hown hK hB 4 (hX.1 0 (by decide)) cf_0 us6 (by decide) fl_6_36 (rfl) d6_count_76 ?_
  refine lv_iconst (v := 1) hx hb d6_count_79 (by decide) ?_
  refine sr_put hx hb hw hown hK hB 5 (hX.1 5 (by decide)) cf_5 us4 tk4 nm4 (by decide) fl_6_171 rfl rfl rfl rfl d6_count_80 (fun H locs hB => ?_)
  refine lv_aload_n hx hb d6_count_83 rfl (lv_at hl 0 rfl) ?_
  refine sr_get (v := .ref (ad 5 0)) hx hb hw hown hK hB 4 (hX.1 0 (by decide)) cf_0 us6 (by decide) fl_6_36 (rfl) d6_count_84 ?_
  refine lv_iconst (v := 0) hx hb d6_count_87 (by decide) ?_
  refine sr_put hx hb hw hown hK hB 4 (hX.1 5 (by decide)) cf_5 us4 tk4 nm4 (by decide) fl_6_159 rfl rfl rfl rfl d6_count_88 (fun H locs hB => ?_)
  refine lv_aload_n hx hb d6_count_91 rfl (lv_at hl 0 rfl) ?_
  refine sr_get (v := .ref (ad 6 0)) hx hb hw hown hK hB 5 (hX.1 0 (by decide)) cf_0 us6 (by decide) fl_6_43 (rfl) d6_count_92 ?_
  refine lv_iconst (v := 3) hx hb d6_count_95 (by decide) ?_
  refine lv_aload_n hx hb d6_count_96 rfl (lv_at hl 0 rfl) ?_
  refine sr_get (v := .int (S 0 0 8)) hx hb hw hown hK hB 8 (hX.1 0 (by decide)) cf_0 us6 (by decide) fl_6_54 (rfl) d6_count_97 ?_
  refine lv_aload_n hx hb d6_count_100 rfl (lv_at hl 0 rfl) ?_
  refine sr_get (v := .int (S 0 0 9)) hx hb hw hown hK hB 9 (hX.1 0 (by decide)) cf_0 us6 (by decide) fl_6_58 (rfl) d6_count_101 ?_
  refine lv_aload_n hx hb d6_count_104 rfl (lv_at hl 0 rfl) ?_
  refine sr_get (v := .ref (ad 5 0)) hx hb hw hown hK hB 4 (hX.1 0 (by decide)) cf_0 us6 (by decide) fl_6_36 (rfl) d6_count_105 ?_
  refine sr_get (v := .int (S 5 0 1)) hx hb hw hown hK hB 1 (hX.1 5 (by decide)) cf_5 us4 (by decide) fl_6_165 (rfl) d6_count_108 ?_
  refine lv_aload_n hx hb d6_count_111 rfl (lv_at hl 2 rfl) ?_
  refine sr_get (v := .int (S 15 n2 4)) hx hb hw hown hK hB 4 (hX.2.2.1 n2 hn2).1 cf_15 us0 (by decide) fl_6_174 (rfl) d6_count_112 ?_
  refine lv_aload_n hx hb d6_count_115 rfl (lv_at hl 0 rfl) ?_
  refine sr_get (v := .ref (ad 5 0)) hx hb hw hown hK hB 4 (hX.1 0 (by decide)) cf_0 us6 (by decide) fl_6_36 (rfl) d6_count_116 ?_
  refine sr_get (v := .int (S 5 0 2)) hx hb hw hown hK hB 2 (hX.1 5 (by decide)) cf_5 us4 (by decide) fl_6_114 (rfl) d6_count_119 ?_
  refine sr_vv C0 hB (m2_write hX 3 (S 0 0 8) (S 0 0 9) (S 5 0 1) (S 15 n2 4) (S 5 0 2) (hsz)) (hX.1 6 (by decide)) cf_6 ml_6_177 im_2_write se_2_write in_2 cd_2_write hd2_write ⟨⟨rfl, rfl⟩, by decide, by decide⟩ ⟨Nat.zero_le _, Nat.zero_le _⟩ hl.1 rfl (Nat.le_of_ble_eq_true rfl) d6_count_122 (fun H locs hB => ?_)
  exact k6_count_125 C0 hB hX x1 n2 (hn2) (lv_sub hl [0, 1, 2] rfl) (hO)
set_option maxRecDepth 100000 in
set_option maxHeartbeats 4000000 in
theorem k6_count_0 {p : Program} {l : Launch} {e : Env} {s : State} {m : MethodId} {args : Array Value} {below : List Frame} {meth : Method} {c : Code} {D : va_G} {aC : Nat → ClassId} {ad : Nat → Nat → Nat} {X : Nat → Nat → Prop} {S A : sS} {G : sG} {H : Heap} {locs : List Loc} (C0 : s_C p s m args meth c b6_count 3 R6 (some .int) D aC) (hB : s_B D aC ad X (s_N ad X) S A G s.heap H locs) (hX : xC X G) (x1 : Int32) (hlo : ∀ i, i < 64 → 0 ≤ (S 15 i 3).toInt ∧ (S 15 i 3).toInt ≤ 6) (hsz : 0 ≤ (S 6 0 1).toInt ∧ (S 6 0 1).toInt ≤ 300) (hsb : ¬ S 5 0 0 = -1 → 0 ≤ (S 5 0 1).toInt ∧ (S 5 0 1).toInt < 64) {ls : Array Slot} (hl : lv_has ls 3 [(0, .ref (ad 0 0)), (1, .int x1)]) {o : Int32 × sS × sS} (hO : O6_count S A G x1 = o) : W p l e (rmk 3) s m args below meth c H locs 0 0 (MQ below (s_Qi D aC ad X G o) args s 0 0 (s_N ad X)) (F0 m 0 ls []) := by
  obtain ⟨hx, hb, hml, hown, hw, hK, hr, hlocks⟩ := id C0
  unfold O6_count at hO
  refine lv_iload_n hx hb d6_count_0 rfl (lv_at hl 1 rfl) ?_
  refine lv_if_lt (tgt := 11) hx hb d6_count_1 (by decide) (fun c_1 => ?_) (fun c_1 => ?_)
  · refine lv_iconst (v := (-1)) hx hb d6_count_11 (by decide) ?_
    exact se_i C0 hB (by rw [if_pos c_1] at hO; exact hO) d6_count_12
  · refine lv_iload_n hx hb d6_count_4 rfl (lv_at hl 1 rfl) ?_
    refine lv_sipush (v := 10000) hx hb d6_count_5 (by decide) ?_
    refine lv_icmp_le (tgt := 13) hx hb d6_count_8 (by decide) (fun c_2 => ?_) (fun c_2 => ?_)
    · refine lv_aload_n hx hb d6_count_13 rfl (lv_at hl 0 rfl) ?_
      refine sr_get (v := .int (S 0 0 9)) hx hb hw hown hK hB 9 (hX.1 0 (by decide)) cf_0 us6 (by decide) fl_6_58 (rfl) d6_count_14 ?_
      refine lv_iconst (v := (-1)) hx hb d6_count_17 (by decide) ?_
      refine lv_icmp_ne (tgt := 24) hx hb d6_count_18 (by decide) (fun c_3 => ?_) (fun c_3 => ?_)
      · refine lv_aload_n hx hb d6_count_24 rfl (lv_at hl 0 rfl) ?_
        refine sr_get (v := .ref (ad 5 0)) hx hb hw hown hK hB 4 (hX.1 0 (by decide)) cf_0 us6 (by decide) fl_6_36 (rfl) d6_count_25 ?_
        refine sr_vp C0 hB (m4_takesCount hX  ) (hX.1 5 (by decide)) cf_5 ml_6_162 im_4_takesCount se_4_takesCount in_4 cd_4_takesCount hd4_takesCount ⟨⟨rfl, rfl⟩, by decide, by decide⟩ ⟨Nat.zero_le _, Nat.zero_le _⟩ hl.1 rfl (Nat.le_of_ble_eq_true rfl) d6_count_28 ?_
        refine lv_if_ne (tgt := 37) hx hb d6_count_31 (by decide) (fun c_4 => ?_) (fun c_4 => ?_)
        · refine lv_aload_n hx hb d6_count_37 rfl (lv_at hl 0 rfl) ?_
          refine sr_get (v := .ref (ad 6 0)) hx hb hw hown hK hB 5 (hX.1 0 (by decide)) cf_0 us6 (by decide) fl_6_43 (rfl) d6_count_38 ?_
          refine sr_get (v := .int (S 6 0 1)) hx hb hw hown hK hB 1 (hX.1 6 (by decide)) cf_6 us2 (by decide) fl_6_146 (rfl) d6_count_41 ?_
          refine lv_sipush (v := 300) hx hb d6_count_44 (by decide) ?_
          refine lv_icmp_lt (tgt := 53) hx hb d6_count_47 (by decide) (fun c_5 => ?_) (fun c_5 => ?_)
          · refine lv_aload_n hx hb d6_count_53 rfl (lv_at hl 0 rfl) ?_
            refine sr_get (v := .ref (ad 3 0)) hx hb hw hown hK hB 2 (hX.1 0 (by decide)) cf_0 us6 (by decide) fl_6_23 (rfl) d6_count_54 ?_
            refine lv_aload_n hx hb d6_count_57 rfl (lv_at hl 0 rfl) ?_
            refine sr_get (v := .ref (ad 5 0)) hx hb hw hown hK hB 4 (hX.1 0 (by decide)) cf_0 us6 (by decide) fl_6_36 (rfl) d6_count_58 ?_
            refine sr_get (v := .int (S 5 0 1)) hx hb hw hown hK hB 1 (hX.1 5 (by decide)) cf_5 us4 (by decide) fl_6_165 (rfl) d6_count_61 ?_
            refine sr_aald (v := some ((S 5 0 1).toNatClampNeg)) hx hb hK hB (hX.1 3 (by decide)) rfl rfl rfl (by (refine vp_in_iff.mpr ?_); (show 0 ≤ (S 5 0 1).toInt ∧ (S 5 0 1).toInt < ((64 : Nat) : Int)); (have qs := hsb (takesCount_t c_4));  omega) d6_count_64 (by exact gb hX (show (S 5 0 1).toNatClampNeg < 64 by (have qs := hsb (takesCount_t c_4)); (have cc9 := cl_i (x := S 5 0 1) (by omega));  omega)) ?_
            refine lv_astore_n (lv' := [(2, .ref (ad 15 ((S 5 0 1).toNatClampNeg))), (0, .ref (ad 0 0)), (1, .int x1)]) hx hb d6_count_65 rfl hl (by decide) rfl (fun ls hl => ?_)
            refine lv_aload_n hx hb d6_count_66 rfl (lv_at hl 0 rfl) ?_
            refine lv_iload_n hx hb d6_count_67 rfl (lv_at hl 2 rfl) ?_
            refine lv_aload_n hx hb d6_count_68 rfl (lv_at hl 1 rfl) ?_
            refine sr_get (v := .int (S 0 0 8)) hx hb hw hown hK hB 8 (hX.1 0 (by decide)) cf_0 us6 (by decide) fl_6_54 (rfl) d6_count_69 ?_
            refine sr_vv C0 hB (m0_correctTo hX ((S 5 0 1).toNatClampNeg) x1 (S 0 0 8) (by (have qs := hsb (takesCount_t c_4)); (have q9 := cl_i qs.1); omega) (hlo _ (by (have qs := hsb (takesCount_t c_4)); (have q9 := cl_i qs.1); omega))) (hX.2.2.1 ((S 5 0 1).toNatClampNeg) (show (S 5 0 1).toNatClampNeg < 64 by (have qs := hsb (takesCount_t c_4)); (have cc9 := cl_i (x := S 5 0 1) (by omega));  omega)).1 cf_15 ml_6_168 im_0_correctTo se_0_correctTo in_0 cd_0_correctTo hd0_correctTo ⟨⟨rfl, rfl⟩, by decide, by decide⟩ ⟨Nat.zero_le _, Nat.zero_le _⟩ hl.1 rfl (Nat.le_of_ble_eq_true rfl) d6_count_72 (fun H locs hB => ?_)
            exact k6_count_75 C0 hB hX x1 ((S 5 0 1).toNatClampNeg) (by rw [(correctTo_fr).1 6 0 1 (fun q => absurd q.1 (by decide))]; exact hsz) ((show (S 5 0 1).toNatClampNeg < 64 by (have qs := hsb (takesCount_t c_4)); (have cc9 := cl_i (x := S 5 0 1) (by omega));  omega)) (lv_sub hl [1, 2, 0] rfl) (by rw [if_neg c_1, if_pos c_2, if_neg c_3, if_neg c_4, if_pos c_5] at hO; exact hO)
          · refine lv_bipush (v := (-8)) hx hb d6_count_50 (by decide) ?_
            exact se_i C0 hB (by rw [if_neg c_1, if_pos c_2, if_neg c_3, if_neg c_4, if_neg c_5] at hO; exact hO) d6_count_52
        · refine lv_bipush (v := (-4)) hx hb d6_count_34 (by decide) ?_
          exact se_i C0 hB (by rw [if_neg c_1, if_pos c_2, if_neg c_3, if_pos c_4] at hO; exact hO) d6_count_36
      · refine lv_bipush (v := (-2)) hx hb d6_count_21 (by decide) ?_
        exact se_i C0 hB (by rw [if_neg c_1, if_pos c_2, if_pos c_3] at hO; exact hO) d6_count_23
    · refine lv_iconst (v := (-1)) hx hb d6_count_11 (by decide) ?_
      exact se_i C0 hB (by rw [if_neg c_1, if_neg c_2] at hO; exact hO) d6_count_12
theorem hd6_count : y6_count.cls = R6 ∧ y6_count.cls ≠ "java/lang/invoke/MethodHandle" ∧ y6_count.cls ≠ "java/lang/invoke/VarHandle" ∧ (parseMethodDescriptor y6_count.desc).map (fun d => d.parameters.length) = some 1 := ⟨rfl, by decide, by decide, by decide +kernel⟩
theorem m6_count {l : Launch} {D : va_G} {aC : Nat → ClassId} {ad : Nat → Nat → Nat} {X : Nat → Nat → Prop} {S A : sS} {G : sG} (hX : xC X G) (x1 : Int32) (hlo : ∀ i, i < 64 → 0 ≤ (S 15 i 3).toInt ∧ (S 15 i 3).toInt ≤ 6) (hsz : 0 ≤ (S 6 0 1).toInt ∧ (S 6 0 1).toInt ≤ 300) (hsb : ¬ S 5 0 0 = -1 → 0 ≤ (S 5 0 1).toInt ∧ (S 5 0 1).toInt < 64) : Met l y6_count (.code y6_count b6_count 3 (some .int) :: wall) (rmk 3) (s_Pc [.ref (ad 0 0), .int x1] D aC ad X S A G) (s_Qi D aC ad X G (O6_count S A G x1)) 0 0 (s_N ad X) :=
  s_met (by decide) rfl (Nat.le_of_ble_eq_true rfl) (fun p e s m args below meth c C0 hB ls hl => k6_count_0 C0 hB hX x1 hlo hsz hsb hl rfl)

def O6_giveBack_78 (S A : sS) (G : sG) (x1 : Int32) (x2 : Int32) (z3 : Int32) : Int32 × sS × sS := (S 13 (x1.toNatClampNeg) 2, S, A)
def O6_giveBack_74 (S A : sS) (G : sG) (x1 : Int32) (x2 : Int32) (z3 : Int32) : Int32 × sS × sS := O6_giveBack_78 (O6_accept S A G ).1 (O6_accept S A G ).2 G x1 x2 z3
def O6_giveBack (S A : sS) (G : sG) (x1 : Int32) (x2 : Int32) : Int32 × sS × sS := if V6_isItem S A G x1 = 0 then ((-1), S, A) else if x2 < 1 then ((-1), S, A) else if x2 ≤ 1000 then if V6_refusalWithoutStep S A G (V6_isControlled S A G x1) = 0 then O6_giveBack_74 (O2_write (up3 S 13 (x1.toNatClampNeg) 2 ((S 13 (x1.toNatClampNeg) 2) + x2)) A G 5 (S 0 0 8) (S 0 0 9) ((-1) - x1) x2 (-1)).1 (O2_write (up3 S 13 (x1.toNatClampNeg) 2 ((S 13 (x1.toNatClampNeg) 2) + x2)) A G 5 (S 0 0 8) (S 0 0 9) ((-1) - x1) x2 (-1)).2 G x1 x2 (V6_refusalWithoutStep S A G (V6_isControlled S A G x1)) else (V6_refusalWithoutStep S A G (V6_isControlled S A G x1), S, A) else ((-1), S, A)
set_option maxRecDepth 100000 in
set_option maxHeartbeats 4000000 in
theorem k6_giveBack_78 {p : Program} {l : Launch} {e : Env} {s : State} {m : MethodId} {args : Array Value} {below : List Frame} {meth : Method} {c : Code} {D : va_G} {aC : Nat → ClassId} {ad : Nat → Nat → Nat} {X : Nat → Nat → Prop} {S A : sS} {G : sG} {H : Heap} {locs : List Loc} (C0 : s_C p s m args meth c b6_giveBack 4 R6 (some .int) D aC) (hB : s_B D aC ad X (s_N ad X) S A G s.heap H locs) (hX : xC X G) (x1 : Int32) (x2 : Int32) (z3 : Int32) (hit1 : (0 ≤ x1.toInt ∧ x1.toInt < 32) ∧ ¬ G 2 x1.toNatClampNeg = none) {ls : Array Slot} (hl : lv_has ls 4 [(0, .ref (ad 0 0)), (1, .int x1), (2, .int x2), (3, .int z3)]) {o : Int32 × sS × sS} (hO : O6_giveBack_78 S A G x1 x2 z3 = o) : W p l e (rmk 4) s m args below meth c H locs 0 0 (MQ below (s_Qi D aC ad X G o) args s 0 0 (s_N ad X)) (F0 m 78 ls []) := by
  obtain ⟨hx, hb, hml, hown, hw, hK, hr, hlocks⟩ := id C0
  unfold O6_giveBack_78 at hO
  refine lv_aload_n hx hb d6_giveBack_78 rfl (lv_at hl 0 rfl) ?_
  refine sr_get (v := .ref (ad 2 0)) hx hb hw hown hK hB 1 (hX.1 0 (by decide)) cf_0 us6 (by decide) fl_6_17 (rfl) d6_giveBack_79 ?_
  refine lv_iload_n hx hb d6_giveBack_82 rfl (lv_at hl 1 rfl) ?_
  refine sr_aald (v := some (x1.toNatClampNeg)) hx hb hK hB (hX.1 2 (by decide)) rfl rfl rfl (by (refine vp_in_iff.mpr ?_); (show 0 ≤ x1.toInt ∧ x1.toInt < ((32 : Nat) : Int));  omega) d6_giveBack_83 (by exact (gi hX (i := x1.toNatClampNeg) (hit1.2)).1) ?_
  refine sr_get (v := .int (S 13 (x1.toNatClampNeg) 2)) hx hb hw hown hK hB 2 (gi hX (i := x1.toNatClampNeg) (hit1.2)).2 cf_13 us1 (by decide) fl_6_222 (rfl) d6_giveBack_84 ?_
  exact se_i C0 hB (hO) d6_giveBack_87
set_option maxRecDepth 100000 in
set_option maxHeartbeats 4000000 in
theorem k6_giveBack_74 {p : Program} {l : Launch} {e : Env} {s : State} {m : MethodId} {args : Array Value} {below : List Frame} {meth : Method} {c : Code} {D : va_G} {aC : Nat → ClassId} {ad : Nat → Nat → Nat} {X : Nat → Nat → Prop} {S A : sS} {G : sG} {H : Heap} {locs : List Loc} (C0 : s_C p s m args meth c b6_giveBack 4 R6 (some .int) D aC) (hB : s_B D aC ad X (s_N ad X) S A G s.heap H locs) (hX : xC X G) (x1 : Int32) (x2 : Int32) (z3 : Int32) (hit1 : (0 ≤ x1.toInt ∧ x1.toInt < 32) ∧ ¬ G 2 x1.toNatClampNeg = none) {ls : Array Slot} (hl : lv_has ls 4 [(0, .ref (ad 0 0)), (1, .int x1), (2, .int x2), (3, .int z3)]) {o : Int32 × sS × sS} (hO : O6_giveBack_74 S A G x1 x2 z3 = o) : W p l e (rmk 4) s m args below meth c H locs 0 0 (MQ below (s_Qi D aC ad X G o) args s 0 0 (s_N ad X)) (F0 m 74 ls []) := by
  obtain ⟨hx, hb, hml, hown, hw, hK, hr, hlocks⟩ := id C0
  unfold O6_giveBack_74 at hO
  refine lv_aload_n hx hb d6_giveBack_74 rfl (lv_at hl 0 rfl) ?_
  refine sr_vv C0 hB (m6_accept hX  ) (hX.1 0 (by decide)) cf_0 ml_6_98 im_6_accept se_6_accept in_6 cd_6_accept hd6_accept ⟨⟨rfl, rfl⟩, by decide, by decide⟩ ⟨Nat.zero_le _, Nat.zero_le _⟩ hl.1 rfl (Nat.le_of_ble_eq_true rfl) d6_giveBack_75 (fun H locs hB => ?_)
  exact k6_giveBack_78 C0 hB hX x1 x2 z3 (hit1) (lv_sub hl [0, 1, 2, 3] rfl) (hO)
set_option maxRecDepth 100000 in
set_option maxHeartbeats 4000000 in
theorem k6_giveBack_0 {p : Program} {l : Launch} {e : Env} {s : State} {m : MethodId} {args : Array Value} {below : List Frame} {meth : Method} {c : Code} {D : va_G} {aC : Nat → ClassId} {ad : Nat → Nat → Nat} {X : Nat → Nat → Prop} {S A : sS} {G : sG} {H : Heap} {locs : List Loc} (C0 : s_C p s m args meth c b6_giveBack 4 R6 (some .int) D aC) (hB : s_B D aC ad X (s_N ad X) S A G s.heap H locs) (hX : xC X G) (x1 : Int32) (x2 : Int32) (hsz : 0 ≤ (S 6 0 1).toInt ∧ (S 6 0 1).toInt ≤ 300) {ls : Array Slot} (hl : lv_has ls 4 [(0, .ref (ad 0 0)), (1, .int x1), (2, .int x2)]) {o : Int32 × sS × sS} (hO : O6_giveBack S A G x1 x2 = o) : W p l e (rmk 4) s m args below meth c H locs 0 0 (MQ below (s_Qi D aC ad X G o) args s 0 0 (s_N ad X)) (F0 m 0 ls []) := by
  obtain ⟨hx, hb, hml, hown, hw, hK, hr, hlocks⟩ := id C0
  unfold O6_giveBack at hO
  refine lv_aload_n hx hb d6_giveBack_0 rfl (lv_at hl 0 rfl) ?_
  refine lv_iload_n hx hb d6_giveBack_1 rfl (lv_at hl 1 rfl) ?_
  refine sr_vp C0 hB (m6_isItem hX x1 ) (hX.1 0 (by decide)) cf_0 ml_6_101 im_6_isItem se_6_isItem in_6 cd_6_isItem hd6_isItem ⟨⟨rfl, rfl⟩, by decide, by decide⟩ ⟨Nat.zero_le _, Nat.zero_le _⟩ hl.1 rfl (Nat.le_of_ble_eq_true rfl) d6_giveBack_2 ?_
  refine lv_if_eq (tgt := 20) hx hb d6_giveBack_5 (by decide) (fun c_1 => ?_) (fun c_1 => ?_)
  · refine lv_iconst (v := (-1)) hx hb d6_giveBack_20 (by decide) ?_
    exact se_i C0 hB (by rw [if_pos c_1] at hO; exact hO) d6_giveBack_21
  · refine lv_iload_n hx hb d6_giveBack_8 rfl (lv_at hl 2 rfl) ?_
    refine lv_iconst (v := 1) hx hb d6_giveBack_9 (by decide) ?_
    refine lv_icmp_lt (tgt := 20) hx hb d6_giveBack_10 (by decide) (fun c_2 => ?_) (fun c_2 => ?_)
    · refine lv_iconst (v := (-1)) hx hb d6_giveBack_20 (by decide) ?_
      exact se_i C0 hB (by rw [if_neg c_1, if_pos c_2] at hO; exact hO) d6_giveBack_21
    · refine lv_iload_n hx hb d6_giveBack_13 rfl (lv_at hl 2 rfl) ?_
      refine lv_sipush (v := 1000) hx hb d6_giveBack_14 (by decide) ?_
      refine lv_icmp_le (tgt := 22) hx hb d6_giveBack_17 (by decide) (fun c_3 => ?_) (fun c_3 => ?_)
      · refine lv_aload_n hx hb d6_giveBack_22 rfl (lv_at hl 0 rfl) ?_
        refine lv_aload_n hx hb d6_giveBack_23 rfl (lv_at hl 0 rfl) ?_
        refine lv_iload_n hx hb d6_giveBack_24 rfl (lv_at hl 1 rfl) ?_
        refine sr_vp C0 hB (m6_isControlled hX x1 ) (hX.1 0 (by decide)) cf_0 ml_6_156 im_6_isControlled se_6_isControlled in_6 cd_6_isControlled hd6_isControlled ⟨⟨rfl, rfl⟩, by decide, by decide⟩ ⟨Nat.zero_le _, Nat.zero_le _⟩ hl.1 rfl (Nat.le_of_ble_eq_true rfl) d6_giveBack_25 ?_
        refine sr_vp C0 hB (m6_refusalWithoutStep hX (V6_isControlled S A G x1) ) (hX.1 0 (by decide)) cf_0 ml_6_218 im_6_refusalWithoutStep se_6_refusalWithoutStep in_6 cd_6_refusalWithoutStep hd6_refusalWithoutStep ⟨⟨rfl, rfl⟩, by decide, by decide⟩ ⟨Nat.zero_le _, Nat.zero_le _⟩ hl.1 rfl (Nat.le_of_ble_eq_true rfl) d6_giveBack_28 ?_
        refine lv_istore_n (lv' := [(3, .int (V6_refusalWithoutStep S A G (V6_isControlled S A G x1))), (0, .ref (ad 0 0)), (1, .int x1), (2, .int x2)]) hx hb d6_giveBack_31 rfl hl (by decide) rfl (fun ls hl => ?_)
        refine lv_iload_n hx hb d6_giveBack_32 rfl (lv_at hl 0 rfl) ?_
        refine lv_if_eq (tgt := 38) hx hb d6_giveBack_33 (by decide) (fun c_4 => ?_) (fun c_4 => ?_)
        · refine lv_aload_n hx hb d6_giveBack_38 rfl (lv_at hl 1 rfl) ?_
          refine sr_get (v := .ref (ad 2 0)) hx hb hw hown hK hB 1 (hX.1 0 (by decide)) cf_0 us6 (by decide) fl_6_17 (rfl) d6_giveBack_39 ?_
          refine lv_iload_n hx hb d6_giveBack_42 rfl (lv_at hl 2 rfl) ?_
          refine sr_aald (v := some (x1.toNatClampNeg)) hx hb hK hB (hX.1 2 (by decide)) rfl rfl rfl (by (refine vp_in_iff.mpr ?_); (show 0 ≤ x1.toInt ∧ x1.toInt < ((32 : Nat) : Int)); (have kc_1 := (isItem_t c_1).1);  omega) d6_giveBack_43 (by exact (gi hX (i := x1.toNatClampNeg) ((isItem_t c_1).2)).1) ?_
          refine lv_dup hx hb d6_giveBack_44 rfl ?_
          refine sr_get (v := .int (S 13 (x1.toNatClampNeg) 2)) hx hb hw hown hK hB 2 (gi hX (i := x1.toNatClampNeg) ((isItem_t c_1).2)).2 cf_13 us1 (by decide) fl_6_222 (rfl) d6_giveBack_45 ?_
          refine lv_iload_n hx hb d6_giveBack_48 rfl (lv_at hl 3 rfl) ?_
          refine lv_iadd hx hb d6_giveBack_49 ?_
          refine sr_put hx hb hw hown hK hB 2 (gi hX (i := x1.toNatClampNeg) ((isItem_t c_1).2)).2 cf_13 us1 tk1 nm1 (by decide) fl_6_222 rfl rfl rfl rfl d6_giveBack_50 (fun H locs hB => ?_)
          refine lv_aload_n hx hb d6_giveBack_53 rfl (lv_at hl 1 rfl) ?_
          refine sr_get (v := .ref (ad 6 0)) hx hb hw hown hK hB 5 (hX.1 0 (by decide)) cf_0 us6 (by decide) fl_6_43 (rfl) d6_giveBack_54 ?_
          refine lv_iconst (v := 5) hx hb d6_giveBack_57 (by decide) ?_
          refine lv_aload_n hx hb d6_giveBack_58 rfl (lv_at hl 1 rfl) ?_
          refine sr_get (v := .int (S 0 0 8)) hx hb hw hown hK hB 8 (hX.1 0 (by decide)) cf_0 us6 (by decide) fl_6_54 (rfl) d6_giveBack_59 ?_
          refine lv_aload_n hx hb d6_giveBack_62 rfl (lv_at hl 1 rfl) ?_
          refine sr_get (v := .int (S 0 0 9)) hx hb hw hown hK hB 9 (hX.1 0 (by decide)) cf_0 us6 (by decide) fl_6_58 (rfl) d6_giveBack_63 ?_
          refine lv_iconst (v := (-1)) hx hb d6_giveBack_66 (by decide) ?_
          refine lv_iload_n hx hb d6_giveBack_67 rfl (lv_at hl 2 rfl) ?_
          refine lv_isub hx hb d6_giveBack_68 ?_
          refine lv_iload_n hx hb d6_giveBack_69 rfl (lv_at hl 3 rfl) ?_
          refine lv_iconst (v := (-1)) hx hb d6_giveBack_70 (by decide) ?_
          refine sr_vv C0 hB (m2_write hX 5 (S 0 0 8) (S 0 0 9) ((-1) - x1) x2 (-1) (hsz)) (hX.1 6 (by decide)) cf_6 ml_6_177 im_2_write se_2_write in_2 cd_2_write hd2_write ⟨⟨rfl, rfl⟩, by decide, by decide⟩ ⟨Nat.zero_le _, Nat.zero_le _⟩ hl.1 rfl (Nat.le_of_ble_eq_true rfl) d6_giveBack_71 (fun H locs hB => ?_)
          exact k6_giveBack_74 C0 hB hX x1 x2 (V6_refusalWithoutStep S A G (V6_isControlled S A G x1)) (isItem_t c_1) (lv_sub hl [1, 2, 3, 0] rfl) (by rw [if_neg c_1, if_neg c_2, if_pos c_3, if_pos c_4] at hO; exact hO)
        · refine lv_iload_n hx hb d6_giveBack_36 rfl (lv_at hl 0 rfl) ?_
          exact se_i C0 hB (by rw [if_neg c_1, if_neg c_2, if_pos c_3, if_neg c_4] at hO; exact hO) d6_giveBack_37
      · refine lv_iconst (v := (-1)) hx hb d6_giveBack_20 (by decide) ?_
        exact se_i C0 hB (by rw [if_neg c_1, if_neg c_2, if_neg c_3] at hO; exact hO) d6_giveBack_21
theorem hd6_giveBack : y6_giveBack.cls = R6 ∧ y6_giveBack.cls ≠ "java/lang/invoke/MethodHandle" ∧ y6_giveBack.cls ≠ "java/lang/invoke/VarHandle" ∧ (parseMethodDescriptor y6_giveBack.desc).map (fun d => d.parameters.length) = some 2 := ⟨rfl, by decide, by decide, by decide +kernel⟩
theorem m6_giveBack {l : Launch} {D : va_G} {aC : Nat → ClassId} {ad : Nat → Nat → Nat} {X : Nat → Nat → Prop} {S A : sS} {G : sG} (hX : xC X G) (x1 : Int32) (x2 : Int32) (hsz : 0 ≤ (S 6 0 1).toInt ∧ (S 6 0 1).toInt ≤ 300) : Met l y6_giveBack (.code y6_giveBack b6_giveBack 4 (some .int) :: wall) (rmk 4) (s_Pc [.ref (ad 0 0), .int x1, .int x2] D aC ad X S A G) (s_Qi D aC ad X G (O6_giveBack S A G x1 x2)) 0 0 (s_N ad X) :=
  s_met (by decide) rfl (Nat.le_of_ble_eq_true rfl) (fun p e s m args below meth c C0 hB ls hl => k6_giveBack_0 C0 hB hX x1 x2 hsz hl rfl)

def O6_reconcile_101 (S A : sS) (G : sG) (z1 : Int32) (z2 : Int32) : Int32 × sS × sS := (S 0 0 14, S, A)
def O6_reconcile_97 (S A : sS) (G : sG) (z1 : Int32) (z2 : Int32) : Int32 × sS × sS := O6_reconcile_101 (O6_accept S A G ).1 (O6_accept S A G ).2 G z1 z2
def O6_reconcile_19 (G : sG)  : Nat → sS → sS → Int32 → Nat → Int32 × sS × sS
  | 0, S, A, _, _ => (0, S, A)
  | r + 1, S, A, z1, j2 => if 64 ≤ nI j2 then O6_reconcile_97 (O2_write S A G 6 (S 0 0 8) (S 0 0 9) (-1) (S 0 0 14) (-1)).1 (O2_write S A G 6 (S 0 0 8) (S 0 0 9) (-1) (S 0 0 14) (-1)).2 G z1 (nI j2) else if V6_isMismatch S A G j2 = 0 then O6_reconcile_19 G  r (up3 S 15 j2 5 0) A z1 (j2 + 1) else O6_reconcile_19 G  r (up3 (up3 S 0 0 14 ((S 0 0 14) + 1)) 15 j2 5 0) (up3 A 7 0 ((S 0 0 14).toNatClampNeg) (nI j2)) z1 (j2 + 1)
def O6_reconcile (S A : sS) (G : sG)  : Int32 × sS × sS := if V6_refusalWithoutStep S A G 1 = 0 then O6_reconcile_19 G  65 (up3 S 0 0 14 0) A (V6_refusalWithoutStep S A G 1) 0 else (V6_refusalWithoutStep S A G 1, S, A)
set_option maxRecDepth 100000 in
set_option maxHeartbeats 4000000 in
theorem k6_reconcile_101 {p : Program} {l : Launch} {e : Env} {s : State} {m : MethodId} {args : Array Value} {below : List Frame} {meth : Method} {c : Code} {D : va_G} {aC : Nat → ClassId} {ad : Nat → Nat → Nat} {X : Nat → Nat → Prop} {S A : sS} {G : sG} {H : Heap} {locs : List Loc} (C0 : s_C p s m args meth c b6_reconcile 3 R6 (some .int) D aC) (hB : s_B D aC ad X (s_N ad X) S A G s.heap H locs) (hX : xC X G) (z1 : Int32) (z2 : Int32)  {ls : Array Slot} (hl : lv_has ls 3 [(0, .ref (ad 0 0)), (1, .int z1), (2, .int z2)]) {o : Int32 × sS × sS} (hO : O6_reconcile_101 S A G z1 z2 = o) : W p l e (rmk 4) s m args below meth c H locs 0 0 (MQ below (s_Qi D aC ad X G o) args s 0 0 (s_N ad X)) (F0 m 101 ls []) := by
  obtain ⟨hx, hb, hml, hown, hw, hK, hr, hlocks⟩ := id C0
  unfold O6_reconcile_101 at hO
  refine lv_aload_n hx hb d6_reconcile_101 rfl (lv_at hl 0 rfl) ?_
  refine sr_get (v := .int (S 0 0 14)) hx hb hw hown hK hB 14 (hX.1 0 (by decide)) cf_0 us6 (by decide) fl_6_73 (rfl) d6_reconcile_102 ?_
  exact se_i C0 hB (hO) d6_reconcile_105
set_option maxRecDepth 100000 in
set_option maxHeartbeats 4000000 in
theorem k6_reconcile_97 {p : Program} {l : Launch} {e : Env} {s : State} {m : MethodId} {args : Array Value} {below : List Frame} {meth : Method} {c : Code} {D : va_G} {aC : Nat → ClassId} {ad : Nat → Nat → Nat} {X : Nat → Nat → Prop} {S A : sS} {G : sG} {H : Heap} {locs : List Loc} (C0 : s_C p s m args meth c b6_reconcile 3 R6 (some .int) D aC) (hB : s_B D aC ad X (s_N ad X) S A G s.heap H locs) (hX : xC X G) (z1 : Int32) (z2 : Int32)  {ls : Array Slot} (hl : lv_has ls 3 [(0, .ref (ad 0 0)), (1, .int z1), (2, .int z2)]) {o : Int32 × sS × sS} (hO : O6_reconcile_97 S A G z1 z2 = o) : W p l e (rmk 4) s m args below meth c H locs 0 0 (MQ below (s_Qi D aC ad X G o) args s 0 0 (s_N ad X)) (F0 m 97 ls []) := by
  obtain ⟨hx, hb, hml, hown, hw, hK, hr, hlocks⟩ := id C0
  unfold O6_reconcile_97 at hO
  refine lv_aload_n hx hb d6_reconcile_97 rfl (lv_at hl 0 rfl) ?_
  refine sr_vv C0 hB (m6_accept hX  ) (hX.1 0 (by decide)) cf_0 ml_6_98 im_6_accept se_6_accept in_6 cd_6_accept hd6_accept ⟨⟨rfl, rfl⟩, by decide, by decide⟩ ⟨Nat.zero_le _, Nat.zero_le _⟩ hl.1 rfl (Nat.le_of_ble_eq_true rfl) d6_reconcile_98 (fun H locs hB => ?_)
  exact k6_reconcile_101 C0 hB hX z1 z2  (lv_sub hl [0, 1, 2] rfl) (hO)
set_option maxRecDepth 100000 in
set_option maxHeartbeats 4000000 in
theorem k6_reconcile_19 {p : Program} {l : Launch} {e : Env} {s : State} {m : MethodId} {args : Array Value} {below : List Frame} {meth : Method} {c : Code} {D : va_G} {aC : Nat → ClassId} {ad : Nat → Nat → Nat} {X : Nat → Nat → Prop} {G : sG} (C0 : s_C p s m args meth c b6_reconcile 3 R6 (some .int) D aC) (hX : xC X G)  : ∀ (r : Nat) {S A : sS} {H : Heap} {locs : List Loc} (hB : s_B D aC ad X (s_N ad X) S A G s.heap H locs) (z1 : Int32) (j2 : Nat) (hj : j2 ≤ 64) (hr3 : 64 < j2 + r) (hmm : 0 ≤ (S 0 0 14).toInt ∧ (S 0 0 14).toInt ≤ (j2 : Int)) (hsz : 0 ≤ (S 6 0 1).toInt ∧ (S 6 0 1).toInt ≤ 300) {ls : Array Slot} (hl : lv_has ls 3 [(0, .ref (ad 0 0)), (1, .int z1), (2, .int (nI j2))]) {o : Int32 × sS × sS} (hO : O6_reconcile_19 G  r S A z1 j2 = o), W p l e (rmk 4) s m args below meth c H locs 0 0 (MQ below (s_Qi D aC ad X G o) args s 0 0 (s_N ad X)) (F0 m 19 ls []) := by
  obtain ⟨hx, hb, hml, hown, hw, hK, hr, hlocks⟩ := id C0
  intro r
  induction r with
  | zero =>
    intro S A H locs hB z1 j2 hj hr3 hmm hsz ls hl o hO
    exact absurd hr3 (by omega)
  | succ r ih =>
    intro S A H locs hB z1 j2 hj hr3 hmm hsz ls hl o hO
    rw [O6_reconcile_19] at hO
    refine lv_iload_n hx hb d6_reconcile_19 rfl (lv_at hl 2 rfl) ?_
    refine lv_bipush (v := 64) hx hb d6_reconcile_20 (by decide) ?_
    refine lv_icmp_ge (tgt := 74) hx hb d6_reconcile_22 (by decide) (fun c_1 => ?_) (fun c_1 => ?_)
    · refine lv_aload_n hx hb d6_reconcile_74 rfl (lv_at hl 0 rfl) ?_
      refine sr_get (v := .ref (ad 6 0)) hx hb hw hown hK hB 5 (hX.1 0 (by decide)) cf_0 us6 (by decide) fl_6_43 (rfl) d6_reconcile_75 ?_
      refine lv_bipush (v := 6) hx hb d6_reconcile_78 (by decide) ?_
      refine lv_aload_n hx hb d6_reconcile_80 rfl (lv_at hl 0 rfl) ?_
      refine sr_get (v := .int (S 0 0 8)) hx hb hw hown hK hB 8 (hX.1 0 (by decide)) cf_0 us6 (by decide) fl_6_54 (rfl) d6_reconcile_81 ?_
      refine lv_aload_n hx hb d6_reconcile_84 rfl (lv_at hl 0 rfl) ?_
      refine sr_get (v := .int (S 0 0 9)) hx hb hw hown hK hB 9 (hX.1 0 (by decide)) cf_0 us6 (by decide) fl_6_58 (rfl) d6_reconcile_85 ?_
      refine lv_iconst (v := (-1)) hx hb d6_reconcile_88 (by decide) ?_
      refine lv_aload_n hx hb d6_reconcile_89 rfl (lv_at hl 0 rfl) ?_
      refine sr_get (v := .int (S 0 0 14)) hx hb hw hown hK hB 14 (hX.1 0 (by decide)) cf_0 us6 (by decide) fl_6_73 (rfl) d6_reconcile_90 ?_
      refine lv_iconst (v := (-1)) hx hb d6_reconcile_93 (by decide) ?_
      refine sr_vv C0 hB (m2_write hX 6 (S 0 0 8) (S 0 0 9) (-1) (S 0 0 14) (-1) (hsz)) (hX.1 6 (by decide)) cf_6 ml_6_177 im_2_write se_2_write in_2 cd_2_write hd2_write ⟨⟨rfl, rfl⟩, by decide, by decide⟩ ⟨Nat.zero_le _, Nat.zero_le _⟩ hl.1 rfl (Nat.le_of_ble_eq_true rfl) d6_reconcile_94 (fun H locs hB => ?_)
      exact k6_reconcile_97 C0 hB hX z1 (nI j2)  (lv_sub hl [0, 1, 2] rfl) (by rw [if_pos c_1] at hO; exact hO)
    · refine lv_aload_n hx hb d6_reconcile_25 rfl (lv_at hl 0 rfl) ?_
      refine lv_aload_n hx hb d6_reconcile_26 rfl (lv_at hl 0 rfl) ?_
      refine sr_get (v := .ref (ad 3 0)) hx hb hw hown hK hB 2 (hX.1 0 (by decide)) cf_0 us6 (by decide) fl_6_23 (rfl) d6_reconcile_27 ?_
      refine lv_iload_n hx hb d6_reconcile_30 rfl (lv_at hl 2 rfl) ?_
      refine sr_aald (v := some j2) hx hb hK hB (hX.1 3 (by decide)) rfl rfl rfl (vp_in_nI (show j2 < 64 by (have aj2 := nI_toInt (n := j2) (by omega)); (have kc_1 := nle_i c_1); (have l64 : (64 : Int32).toInt = 64 := rfl);  omega) (by decide)) d6_reconcile_31 (by rw [nI_clamp (show j2 < 2 ^ 31 by omega)]; exact gb hX (show j2 < 64 by (have aj2 := nI_toInt (n := j2) (by omega)); (have kc_1 := nle_i c_1); (have l64 : (64 : Int32).toInt = 64 := rfl);  omega)) ?_
      refine sr_vp C0 hB (m6_isMismatch hX j2 (by (have aj2 := nI_toInt (n := j2) (by omega)); (have kc_1 := nle_i c_1); (have l64 : (64 : Int32).toInt = 64 := rfl);  omega)) (hX.1 0 (by decide)) cf_0 ml_6_225 im_6_isMismatch se_6_isMismatch in_6 cd_6_isMismatch hd6_isMismatch ⟨⟨rfl, rfl⟩, by decide, by decide⟩ ⟨Nat.zero_le _, Nat.zero_le _⟩ hl.1 rfl (Nat.le_of_ble_eq_true rfl) d6_reconcile_32 ?_
      refine lv_if_eq (tgt := 58) hx hb d6_reconcile_35 (by decide) (fun c_2 => ?_) (fun c_2 => ?_)
      · refine lv_aload_n hx hb d6_reconcile_58 rfl (lv_at hl 0 rfl) ?_
        refine sr_get (v := .ref (ad 3 0)) hx hb hw hown hK hB 2 (hX.1 0 (by decide)) cf_0 us6 (by decide) fl_6_23 (rfl) d6_reconcile_59 ?_
        refine lv_iload_n hx hb d6_reconcile_62 rfl (lv_at hl 2 rfl) ?_
        refine sr_aald (v := some j2) hx hb hK hB (hX.1 3 (by decide)) rfl rfl rfl (vp_in_nI (show j2 < 64 by (have aj2 := nI_toInt (n := j2) (by omega)); (have kc_1 := nle_i c_1); (have l64 : (64 : Int32).toInt = 64 := rfl);  omega) (by decide)) d6_reconcile_63 (by rw [nI_clamp (show j2 < 2 ^ 31 by omega)]; exact gb hX (show j2 < 64 by (have aj2 := nI_toInt (n := j2) (by omega)); (have kc_1 := nle_i c_1); (have l64 : (64 : Int32).toInt = 64 := rfl);  omega)) ?_
        refine lv_iconst (v := 0) hx hb d6_reconcile_64 (by decide) ?_
        refine sr_put hx hb hw hown hK hB 5 (hX.2.2.1 (j2) (show j2 < 64 by (have aj2 := nI_toInt (n := j2) (by omega)); (have kc_1 := nle_i c_1); (have l64 : (64 : Int32).toInt = 64 := rfl);  omega)).1 cf_15 us0 tk0 nm0 (by decide) fl_6_229 rfl rfl rfl rfl d6_reconcile_65 (fun H locs hB => ?_)
        refine lv_iinc (v := nI (j2 + 1)) (lv' := [(2, .int (nI (j2 + 1))), (0, .ref (ad 0 0)), (1, .int z1)]) hx hb d6_reconcile_68 hl (k := 2) rfl (nI_1 j2) (by decide) rfl (fun ls hl => ?_)
        refine lv_goto (tgt := 19) hx hb d6_reconcile_71 (by decide) ?_
        exact ih hB z1 (j2 + 1) (by (have aj2 := nI_toInt (n := j2) (by omega)); (have kc_1 := nle_i c_1); (have l64 : (64 : Int32).toInt = 64 := rfl);  omega) (by (have aj2 := nI_toInt (n := j2) (by omega)); (have kc_1 := nle_i c_1); (have l64 : (64 : Int32).toInt = 64 := rfl);  omega) (by (have aj2 := nI_toInt (n := j2) (by omega)); (have kc_1 := nle_i c_1); (have l64 : (64 : Int32).toInt = 64 := rfl);  first | ((show 0 ≤ (S 0 0 14).toInt ∧ (S 0 0 14).toInt ≤ ((j2 + 1 : Nat) : Int)); omega) | ((show 0 ≤ (S 0 0 14 + 1).toInt ∧ (S 0 0 14 + 1).toInt ≤ ((j2 + 1 : Nat) : Int)); (have l1 : (1 : Int32).toInt = 1 := rfl); (have q := add_i (x := S 0 0 14) (y := 1) (by omega) (by omega)); omega)) (by (have aj2 := nI_toInt (n := j2) (by omega)); (have kc_1 := nle_i c_1); (have l64 : (64 : Int32).toInt = 64 := rfl);  exact hsz) (lv_sub hl [1, 2, 0] rfl) (by rw [if_neg c_1, if_pos c_2] at hO; exact hO)
      · refine lv_aload_n hx hb d6_reconcile_38 rfl (lv_at hl 0 rfl) ?_
        refine sr_get (v := .ref (ad 7 0)) hx hb hw hown hK hB 6 (hX.1 0 (by decide)) cf_0 us6 (by decide) fl_6_47 (rfl) d6_reconcile_39 ?_
        refine lv_aload_n hx hb d6_reconcile_42 rfl (lv_at hl 0 rfl) ?_
        refine sr_get (v := .int (S 0 0 14)) hx hb hw hown hK hB 14 (hX.1 0 (by decide)) cf_0 us6 (by decide) fl_6_73 (rfl) d6_reconcile_43 ?_
        refine lv_iload_n hx hb d6_reconcile_46 rfl (lv_at hl 2 rfl) ?_
        refine sr_iast hx hb hK hB (hX.1 7 (by decide)) rfl rfl (by (refine vp_in_iff.mpr ?_); (show 0 ≤ (S 0 0 14).toInt ∧ (S 0 0 14).toInt < ((64 : Nat) : Int)); (have aj2 := nI_toInt (n := j2) (by omega)); (have kc_1 := nle_i c_1); (have l64 : (64 : Int32).toInt = 64 := rfl);  omega) d6_reconcile_47 (fun H locs hB => ?_)
        refine lv_aload_n hx hb d6_reconcile_48 rfl (lv_at hl 0 rfl) ?_
        refine lv_dup hx hb d6_reconcile_49 rfl ?_
        refine sr_get (v := .int (S 0 0 14)) hx hb hw hown hK hB 14 (hX.1 0 (by decide)) cf_0 us6 (by decide) fl_6_73 (rfl) d6_reconcile_50 ?_
        refine lv_iconst (v := 1) hx hb d6_reconcile_53 (by decide) ?_
        refine lv_iadd hx hb d6_reconcile_54 ?_
        refine sr_put hx hb hw hown hK hB 14 (hX.1 0 (by decide)) cf_0 us6 tk6 nm6 (by decide) fl_6_73 rfl rfl rfl rfl d6_reconcile_55 (fun H locs hB => ?_)
        refine lv_aload_n hx hb d6_reconcile_58 rfl (lv_at hl 0 rfl) ?_
        refine sr_get (v := .ref (ad 3 0)) hx hb hw hown hK hB 2 (hX.1 0 (by decide)) cf_0 us6 (by decide) fl_6_23 (rfl) d6_reconcile_59 ?_
        refine lv_iload_n hx hb d6_reconcile_62 rfl (lv_at hl 2 rfl) ?_
        refine sr_aald (v := some j2) hx hb hK hB (hX.1 3 (by decide)) rfl rfl rfl (vp_in_nI (show j2 < 64 by (have aj2 := nI_toInt (n := j2) (by omega)); (have kc_1 := nle_i c_1); (have l64 : (64 : Int32).toInt = 64 := rfl);  omega) (by decide)) d6_reconcile_63 (by rw [nI_clamp (show j2 < 2 ^ 31 by omega)]; exact gb hX (show j2 < 64 by (have aj2 := nI_toInt (n := j2) (by omega)); (have kc_1 := nle_i c_1); (have l64 : (64 : Int32).toInt = 64 := rfl);  omega)) ?_
        refine lv_iconst (v := 0) hx hb d6_reconcile_64 (by decide) ?_
        refine sr_put hx hb hw hown hK hB 5 (hX.2.2.1 (j2) (show j2 < 64 by (have aj2 := nI_toInt (n := j2) (by omega)); (have kc_1 := nle_i c_1); (have l64 : (64 : Int32).toInt = 64 := rfl);  omega)).1 cf_15 us0 tk0 nm0 (by decide) fl_6_229 rfl rfl rfl rfl d6_reconcile_65 (fun H locs hB => ?_)
        refine lv_iinc (v := nI (j2 + 1)) (lv' := [(2, .int (nI (j2 + 1))), (0, .ref (ad 0 0)), (1, .int z1)]) hx hb d6_reconcile_68 hl (k := 2) rfl (nI_1 j2) (by decide) rfl (fun ls hl => ?_)
        refine lv_goto (tgt := 19) hx hb d6_reconcile_71 (by decide) ?_
        exact ih hB z1 (j2 + 1) (by (have aj2 := nI_toInt (n := j2) (by omega)); (have kc_1 := nle_i c_1); (have l64 : (64 : Int32).toInt = 64 := rfl);  omega) (by (have aj2 := nI_toInt (n := j2) (by omega)); (have kc_1 := nle_i c_1); (have l64 : (64 : Int32).toInt = 64 := rfl);  omega) (by (have aj2 := nI_toInt (n := j2) (by omega)); (have kc_1 := nle_i c_1); (have l64 : (64 : Int32).toInt = 64 := rfl);  first | ((show 0 ≤ (S 0 0 14).toInt ∧ (S 0 0 14).toInt ≤ ((j2 + 1 : Nat) : Int)); omega) | ((show 0 ≤ (S 0 0 14 + 1).toInt ∧ (S 0 0 14 + 1).toInt ≤ ((j2 + 1 : Nat) : Int)); (have l1 : (1 : Int32).toInt = 1 := rfl); (have q := add_i (x := S 0 0 14) (y := 1) (by omega) (by omega)); omega)) (by (have aj2 := nI_toInt (n := j2) (by omega)); (have kc_1 := nle_i c_1); (have l64 : (64 : Int32).toInt = 64 := rfl);  exact hsz) (lv_sub hl [1, 2, 0] rfl) (by rw [if_neg c_1, if_neg c_2] at hO; exact hO)
set_option maxRecDepth 100000 in
set_option maxHeartbeats 4000000 in
theorem k6_reconcile_0 {p : Program} {l : Launch} {e : Env} {s : State} {m : MethodId} {args : Array Value} {below : List Frame} {meth : Method} {c : Code} {D : va_G} {aC : Nat → ClassId} {ad : Nat → Nat → Nat} {X : Nat → Nat → Prop} {S A : sS} {G : sG} {H : Heap} {locs : List Loc} (C0 : s_C p s m args meth c b6_reconcile 3 R6 (some .int) D aC) (hB : s_B D aC ad X (s_N ad X) S A G s.heap H locs) (hX : xC X G)  (hsz : 0 ≤ (S 6 0 1).toInt ∧ (S 6 0 1).toInt ≤ 300) {ls : Array Slot} (hl : lv_has ls 3 [(0, .ref (ad 0 0))]) {o : Int32 × sS × sS} (hO : O6_reconcile S A G  = o) : W p l e (rmk 4) s m args below meth c H locs 0 0 (MQ below (s_Qi D aC ad X G o) args s 0 0 (s_N ad X)) (F0 m 0 ls []) := by
  obtain ⟨hx, hb, hml, hown, hw, hK, hr, hlocks⟩ := id C0
  unfold O6_reconcile at hO
  refine lv_aload_n hx hb d6_reconcile_0 rfl (lv_at hl 0 rfl) ?_
  refine lv_iconst (v := 1) hx hb d6_reconcile_1 (by decide) ?_
  refine sr_vp C0 hB (m6_refusalWithoutStep hX 1 ) (hX.1 0 (by decide)) cf_0 ml_6_218 im_6_refusalWithoutStep se_6_refusalWithoutStep in_6 cd_6_refusalWithoutStep hd6_refusalWithoutStep ⟨⟨rfl, rfl⟩, by decide, by decide⟩ ⟨Nat.zero_le _, Nat.zero_le _⟩ hl.1 rfl (Nat.le_of_ble_eq_true rfl) d6_reconcile_2 ?_
  refine lv_istore_n (lv' := [(1, .int (V6_refusalWithoutStep S A G 1)), (0, .ref (ad 0 0))]) hx hb d6_reconcile_5 rfl hl (by decide) rfl (fun ls hl => ?_)
  refine lv_iload_n hx hb d6_reconcile_6 rfl (lv_at hl 0 rfl) ?_
  refine lv_if_eq (tgt := 12) hx hb d6_reconcile_7 (by decide) (fun c_1 => ?_) (fun c_1 => ?_)
  · refine lv_aload_n hx hb d6_reconcile_12 rfl (lv_at hl 1 rfl) ?_
    refine lv_iconst (v := 0) hx hb d6_reconcile_13 (by decide) ?_
    refine sr_put hx hb hw hown hK hB 14 (hX.1 0 (by decide)) cf_0 us6 tk6 nm6 (by decide) fl_6_73 rfl rfl rfl rfl d6_reconcile_14 (fun H locs hB => ?_)
    refine lv_iconst (v := 0) hx hb d6_reconcile_17 (by decide) ?_
    refine lv_istore_n (lv' := [(2, .int 0), (1, .int (V6_refusalWithoutStep S A G 1)), (0, .ref (ad 0 0))]) hx hb d6_reconcile_18 rfl hl (by decide) rfl (fun ls hl => ?_)
    exact k6_reconcile_19 C0 hX  65 hB (V6_refusalWithoutStep S A G 1) 0 (by  omega) (by  omega) (by  exact ⟨by rw [up3_s]; decide, by rw [up3_s]; decide⟩) (by  exact hsz) (lv_sub hl [2, 1, 0] rfl) (by rw [if_pos c_1] at hO; exact hO)
  · refine lv_iload_n hx hb d6_reconcile_10 rfl (lv_at hl 0 rfl) ?_
    exact se_i C0 hB (by rw [if_neg c_1] at hO; exact hO) d6_reconcile_11
theorem hd6_reconcile : y6_reconcile.cls = R6 ∧ y6_reconcile.cls ≠ "java/lang/invoke/MethodHandle" ∧ y6_reconcile.cls ≠ "java/lang/invoke/VarHandle" ∧ (parseMethodDescriptor y6_reconcile.desc).map (fun d => d.parameters.length) = some 0 := ⟨rfl, by decide, by decide, by decide +kernel⟩
theorem m6_reconcile {l : Launch} {D : va_G} {aC : Nat → ClassId} {ad : Nat → Nat → Nat} {X : Nat → Nat → Prop} {S A : sS} {G : sG} (hX : xC X G)  (hsz : 0 ≤ (S 6 0 1).toInt ∧ (S 6 0 1).toInt ≤ 300) : Met l y6_reconcile (.code y6_reconcile b6_reconcile 3 (some .int) :: wall) (rmk 4) (s_Pc [.ref (ad 0 0)] D aC ad X S A G) (s_Qi D aC ad X G (O6_reconcile S A G )) 0 0 (s_N ad X) :=
  s_met (by decide) rfl (Nat.le_of_ble_eq_true rfl) (fun p e s m args below meth c C0 hB ls hl => k6_reconcile_0 C0 hB hX  hsz hl rfl)

def O6_begin_232 (S A : sS) (G : sG) (x1 : Int32) (x2 : Int32) (z3 : Int32) : Int32 × sS × sS := (z3, S, A)
def O6_begin_190 (S A : sS) (G : sG) (x1 : Int32) (x2 : Int32) (z3 : Int32) : Int32 × sS × sS := if x1 = 2 then O6_begin_232 (O6_accept (up3 S 5 0 4 1) A G ).1 (O6_accept (up3 S 5 0 4 1) A G ).2 G x1 x2 z3 else if x1 = 1 then O6_begin_232 (O6_accept (up3 S 5 0 4 0) A G ).1 (O6_accept (up3 S 5 0 4 0) A G ).2 G x1 x2 z3 else if V6_isControlled S A G (S 15 (z3.toNatClampNeg) 2) = 0 then O6_begin_232 (O6_accept (up3 S 5 0 4 0) A G ).1 (O6_accept (up3 S 5 0 4 0) A G ).2 G x1 x2 z3 else O6_begin_232 (O6_accept (up3 S 5 0 4 1) A G ).1 (O6_accept (up3 S 5 0 4 1) A G ).2 G x1 x2 z3
def O6_begin (S A : sS) (G : sG) (x1 : Int32) (x2 : Int32) : Int32 × sS × sS := if V6_isTarget S A G x1 x2 = 0 then ((-1), S, A) else if S 0 0 9 = (-1) then ((-2), S, A) else if x1 = 1 then if V6_isPharmacistIn S A G  = 0 then ((-3), S, A) else if V4_isOpen S A G  = 0 then if V6_wantsWitness S A G x1 x2 = 0 then if x2 = (-1) then ((-7), S, A) else if 290 ≤ S 6 0 1 then ((-8), S, A) else if S 15 (x2.toNatClampNeg) 3 < 6 then O6_begin_190 (O4_open S A G x1 x2 (-1) (S 0 0 8)).1 (O4_open S A G x1 x2 (-1) (S 0 0 8)).2 G x1 x2 x2 else ((-8), S, A) else if S 0 0 11 = (-1) then ((-5), S, A) else if x2 = (-1) then ((-7), S, A) else if 290 ≤ S 6 0 1 then ((-8), S, A) else if S 15 (x2.toNatClampNeg) 3 < 6 then O6_begin_190 (O4_open S A G x1 x2 (-1) (S 0 0 8)).1 (O4_open S A G x1 x2 (-1) (S 0 0 8)).2 G x1 x2 x2 else ((-8), S, A) else ((-4), S, A) else if V6_isHandlerIn S A G  = 0 then ((-3), S, A) else if V4_isOpen S A G  = 0 then if V6_wantsWitness S A G x1 x2 = 0 then if x1 = 0 then if V3_mayTake S A G (x2.toNatClampNeg) (S 0 0 8) = 0 then ((-6), S, A) else if V6_binToTakeFrom S A G (S 14 (x2.toNatClampNeg) 0) = (-1) then ((-7), S, A) else if 290 ≤ S 6 0 1 then ((-8), S, A) else O6_begin_190 (O4_open S A G x1 (V6_binToTakeFrom S A G (S 14 (x2.toNatClampNeg) 0)) x2 (S 0 0 8)).1 (O4_open S A G x1 (V6_binToTakeFrom S A G (S 14 (x2.toNatClampNeg) 0)) x2 (S 0 0 8)).2 G x1 x2 (V6_binToTakeFrom S A G (S 14 (x2.toNatClampNeg) 0)) else if x2 = (-1) then ((-7), S, A) else if 290 ≤ S 6 0 1 then ((-8), S, A) else O6_begin_190 (O4_open S A G x1 x2 (-1) (S 0 0 8)).1 (O4_open S A G x1 x2 (-1) (S 0 0 8)).2 G x1 x2 x2 else if S 0 0 11 = (-1) then ((-5), S, A) else if x1 = 0 then if V3_mayTake S A G (x2.toNatClampNeg) (S 0 0 8) = 0 then ((-6), S, A) else if V6_binToTakeFrom S A G (S 14 (x2.toNatClampNeg) 0) = (-1) then ((-7), S, A) else if 290 ≤ S 6 0 1 then ((-8), S, A) else O6_begin_190 (O4_open S A G x1 (V6_binToTakeFrom S A G (S 14 (x2.toNatClampNeg) 0)) x2 (S 0 0 8)).1 (O4_open S A G x1 (V6_binToTakeFrom S A G (S 14 (x2.toNatClampNeg) 0)) x2 (S 0 0 8)).2 G x1 x2 (V6_binToTakeFrom S A G (S 14 (x2.toNatClampNeg) 0)) else if x2 = (-1) then ((-7), S, A) else if 290 ≤ S 6 0 1 then ((-8), S, A) else O6_begin_190 (O4_open S A G x1 x2 (-1) (S 0 0 8)).1 (O4_open S A G x1 x2 (-1) (S 0 0 8)).2 G x1 x2 x2 else ((-4), S, A)
set_option maxRecDepth 100000 in
set_option maxHeartbeats 4000000 in
theorem k6_begin_232 {p : Program} {l : Launch} {e : Env} {s : State} {m : MethodId} {args : Array Value} {below : List Frame} {meth : Method} {c : Code} {D : va_G} {aC : Nat → ClassId} {ad : Nat → Nat → Nat} {X : Nat → Nat → Prop} {S A : sS} {G : sG} {H : Heap} {locs : List Loc} (C0 : s_C p s m args meth c b6_begin 4 R6 (some .int) D aC) (hB : s_B D aC ad X (s_N ad X) S A G s.heap H locs) (hX : xC X G) (x1 : Int32) (x2 : Int32) (z3 : Int32)  {ls : Array Slot} (hl : lv_has ls 4 [(0, .ref (ad 0 0)), (1, .int x1), (2, .int x2), (3, .int z3)]) {o : Int32 × sS × sS} (hO : O6_begin_232 S A G x1 x2 z3 = o) : W p l e (rmk 3) s m args below meth c H locs 0 0 (MQ below (s_Qi D aC ad X G o) args s 0 0 (s_N ad X)) (F0 m 232 ls []) := by
  obtain ⟨hx, hb, hml, hown, hw, hK, hr, hlocks⟩ := id C0
  unfold O6_begin_232 at hO
  refine lv_iload_n hx hb d6_begin_232 rfl (lv_at hl 3 rfl) ?_
  exact se_i C0 hB (hO) d6_begin_233
set_option maxRecDepth 100000 in
set_option maxHeartbeats 4000000 in
theorem k6_begin_190 {p : Program} {l : Launch} {e : Env} {s : State} {m : MethodId} {args : Array Value} {below : List Frame} {meth : Method} {c : Code} {D : va_G} {aC : Nat → ClassId} {ad : Nat → Nat → Nat} {X : Nat → Nat → Prop} {S A : sS} {G : sG} {H : Heap} {locs : List Loc} (C0 : s_C p s m args meth c b6_begin 4 R6 (some .int) D aC) (hB : s_B D aC ad X (s_N ad X) S A G s.heap H locs) (hX : xC X G) (x1 : Int32) (x2 : Int32) (z3 : Int32) (hz3 : 0 ≤ z3.toInt ∧ z3.toInt < 64) {ls : Array Slot} (hl : lv_has ls 4 [(0, .ref (ad 0 0)), (1, .int x1), (2, .int x2), (3, .int z3)]) {o : Int32 × sS × sS} (hO : O6_begin_190 S A G x1 x2 z3 = o) : W p l e (rmk 3) s m args below meth c H locs 0 0 (MQ below (s_Qi D aC ad X G o) args s 0 0 (s_N ad X)) (F0 m 190 ls []) := by
  obtain ⟨hx, hb, hml, hown, hw, hK, hr, hlocks⟩ := id C0
  unfold O6_begin_190 at hO
  refine lv_aload_n hx hb d6_begin_190 rfl (lv_at hl 0 rfl) ?_
  refine sr_get (v := .ref (ad 5 0)) hx hb hw hown hK hB 4 (hX.1 0 (by decide)) cf_0 us6 (by decide) fl_6_36 (rfl) d6_begin_191 ?_
  refine lv_iload_n hx hb d6_begin_194 rfl (lv_at hl 1 rfl) ?_
  refine lv_iconst (v := 2) hx hb d6_begin_195 (by decide) ?_
  refine lv_icmp_eq (tgt := 220) hx hb d6_begin_196 (by decide) (fun c_1 => ?_) (fun c_1 => ?_)
  · refine lv_iconst (v := 1) hx hb d6_begin_220 (by decide) ?_
    refine lv_goto (tgt := 225) hx hb d6_begin_221 (by decide) ?_
    refine sr_put hx hb hw hown hK hB 4 (hX.1 5 (by decide)) cf_5 us4 tk4 nm4 (by decide) fl_6_159 rfl rfl rfl rfl d6_begin_225 (fun H locs hB => ?_)
    refine lv_aload_n hx hb d6_begin_228 rfl (lv_at hl 0 rfl) ?_
    refine sr_vv C0 hB (m6_accept hX  ) (hX.1 0 (by decide)) cf_0 ml_6_98 im_6_accept se_6_accept in_6 cd_6_accept hd6_accept ⟨⟨rfl, rfl⟩, by decide, by decide⟩ ⟨Nat.zero_le _, Nat.zero_le _⟩ hl.1 rfl (Nat.le_of_ble_eq_true rfl) d6_begin_229 (fun H locs hB => ?_)
    exact k6_begin_232 C0 hB hX x1 x2 z3  (lv_sub hl [0, 1, 2, 3] rfl) (by rw [if_pos c_1] at hO; exact hO)
  · refine lv_iload_n hx hb d6_begin_199 rfl (lv_at hl 1 rfl) ?_
    refine lv_iconst (v := 1) hx hb d6_begin_200 (by decide) ?_
    refine lv_icmp_eq (tgt := 224) hx hb d6_begin_201 (by decide) (fun c_2 => ?_) (fun c_2 => ?_)
    · refine lv_iconst (v := 0) hx hb d6_begin_224 (by decide) ?_
      refine sr_put hx hb hw hown hK hB 4 (hX.1 5 (by decide)) cf_5 us4 tk4 nm4 (by decide) fl_6_159 rfl rfl rfl rfl d6_begin_225 (fun H locs hB => ?_)
      refine lv_aload_n hx hb d6_begin_228 rfl (lv_at hl 0 rfl) ?_
      refine sr_vv C0 hB (m6_accept hX  ) (hX.1 0 (by decide)) cf_0 ml_6_98 im_6_accept se_6_accept in_6 cd_6_accept hd6_accept ⟨⟨rfl, rfl⟩, by decide, by decide⟩ ⟨Nat.zero_le _, Nat.zero_le _⟩ hl.1 rfl (Nat.le_of_ble_eq_true rfl) d6_begin_229 (fun H locs hB => ?_)
      exact k6_begin_232 C0 hB hX x1 x2 z3  (lv_sub hl [0, 1, 2, 3] rfl) (by rw [if_neg c_1, if_pos c_2] at hO; exact hO)
    · refine lv_aload_n hx hb d6_begin_204 rfl (lv_at hl 0 rfl) ?_
      refine lv_aload_n hx hb d6_begin_205 rfl (lv_at hl 0 rfl) ?_
      refine sr_get (v := .ref (ad 3 0)) hx hb hw hown hK hB 2 (hX.1 0 (by decide)) cf_0 us6 (by decide) fl_6_23 (rfl) d6_begin_206 ?_
      refine lv_iload_n hx hb d6_begin_209 rfl (lv_at hl 3 rfl) ?_
      refine sr_aald (v := some (z3.toNatClampNeg)) hx hb hK hB (hX.1 3 (by decide)) rfl rfl rfl (by (refine vp_in_iff.mpr ?_); (show 0 ≤ z3.toInt ∧ z3.toInt < ((64 : Nat) : Int));  omega) d6_begin_210 (by exact gb hX (show z3.toNatClampNeg < 64 by (have cc9 := cl_i (x := z3) (by omega));  omega)) ?_
      refine sr_get (v := .int (S 15 (z3.toNatClampNeg) 2)) hx hb hw hown hK hB 2 (hX.2.2.1 (z3.toNatClampNeg) (show z3.toNatClampNeg < 64 by (have cc9 := cl_i (x := z3) (by omega));  omega)).1 cf_15 us0 (by decide) fl_6_155 (rfl) d6_begin_211 ?_
      refine sr_vp C0 hB (m6_isControlled hX (S 15 (z3.toNatClampNeg) 2) ) (hX.1 0 (by decide)) cf_0 ml_6_156 im_6_isControlled se_6_isControlled in_6 cd_6_isControlled hd6_isControlled ⟨⟨rfl, rfl⟩, by decide, by decide⟩ ⟨Nat.zero_le _, Nat.zero_le _⟩ hl.1 rfl (Nat.le_of_ble_eq_true rfl) d6_begin_214 ?_
      refine lv_if_eq (tgt := 224) hx hb d6_begin_217 (by decide) (fun c_3 => ?_) (fun c_3 => ?_)
      · refine lv_iconst (v := 0) hx hb d6_begin_224 (by decide) ?_
        refine sr_put hx hb hw hown hK hB 4 (hX.1 5 (by decide)) cf_5 us4 tk4 nm4 (by decide) fl_6_159 rfl rfl rfl rfl d6_begin_225 (fun H locs hB => ?_)
        refine lv_aload_n hx hb d6_begin_228 rfl (lv_at hl 0 rfl) ?_
        refine sr_vv C0 hB (m6_accept hX  ) (hX.1 0 (by decide)) cf_0 ml_6_98 im_6_accept se_6_accept in_6 cd_6_accept hd6_accept ⟨⟨rfl, rfl⟩, by decide, by decide⟩ ⟨Nat.zero_le _, Nat.zero_le _⟩ hl.1 rfl (Nat.le_of_ble_eq_true rfl) d6_begin_229 (fun H locs hB => ?_)
        exact k6_begin_232 C0 hB hX x1 x2 z3  (lv_sub hl [0, 1, 2, 3] rfl) (by rw [if_neg c_1, if_neg c_2, if_pos c_3] at hO; exact hO)
      · refine lv_iconst (v := 1) hx hb d6_begin_220 (by decide) ?_
        refine lv_goto (tgt := 225) hx hb d6_begin_221 (by decide) ?_
        refine sr_put hx hb hw hown hK hB 4 (hX.1 5 (by decide)) cf_5 us4 tk4 nm4 (by decide) fl_6_159 rfl rfl rfl rfl d6_begin_225 (fun H locs hB => ?_)
        refine lv_aload_n hx hb d6_begin_228 rfl (lv_at hl 0 rfl) ?_
        refine sr_vv C0 hB (m6_accept hX  ) (hX.1 0 (by decide)) cf_0 ml_6_98 im_6_accept se_6_accept in_6 cd_6_accept hd6_accept ⟨⟨rfl, rfl⟩, by decide, by decide⟩ ⟨Nat.zero_le _, Nat.zero_le _⟩ hl.1 rfl (Nat.le_of_ble_eq_true rfl) d6_begin_229 (fun H locs hB => ?_)
        exact k6_begin_232 C0 hB hX x1 x2 z3  (lv_sub hl [0, 1, 2, 3] rfl) (by rw [if_neg c_1, if_neg c_2, if_neg c_3] at hO; exact hO)
set_option maxRecDepth 100000 in
set_option maxHeartbeats 4000000 in
theorem k6_begin_0 {p : Program} {l : Launch} {e : Env} {s : State} {m : MethodId} {args : Array Value} {below : List Frame} {meth : Method} {c : Code} {D : va_G} {aC : Nat → ClassId} {ad : Nat → Nat → Nat} {X : Nat → Nat → Prop} {S A : sS} {G : sG} {H : Heap} {locs : List Loc} (C0 : s_C p s m args meth c b6_begin 4 R6 (some .int) D aC) (hB : s_B D aC ad X (s_N ad X) S A G s.heap H locs) (hX : xC X G) (x1 : Int32) (x2 : Int32) (hlo : ∀ i, i < 64 → 0 ≤ (S 15 i 3).toInt ∧ (S 15 i 3).toInt ≤ 6) (hsz : 0 ≤ (S 6 0 1).toInt ∧ (S 6 0 1).toInt ≤ 300) (hoc : 0 ≤ (S 0 0 13).toInt ∧ (S 0 0 13).toInt ≤ 60) (hgo : ∀ i : Nat, (i : Int) < (S 0 0 13).toInt → ¬ G 4 i = none) {ls : Array Slot} (hl : lv_has ls 4 [(0, .ref (ad 0 0)), (1, .int x1), (2, .int x2)]) {o : Int32 × sS × sS} (hO : O6_begin S A G x1 x2 = o) : W p l e (rmk 3) s m args below meth c H locs 0 0 (MQ below (s_Qi D aC ad X G o) args s 0 0 (s_N ad X)) (F0 m 0 ls []) := by
  obtain ⟨hx, hb, hml, hown, hw, hK, hr, hlocks⟩ := id C0
  unfold O6_begin at hO
  refine lv_aload_n hx hb d6_begin_0 rfl (lv_at hl 0 rfl) ?_
  refine lv_iload_n hx hb d6_begin_1 rfl (lv_at hl 1 rfl) ?_
  refine lv_iload_n hx hb d6_begin_2 rfl (lv_at hl 2 rfl) ?_
  refine sr_vp C0 hB (m6_isTarget hX x1 x2 ) (hX.1 0 (by decide)) cf_0 ml_6_126 im_6_isTarget se_6_isTarget in_6 cd_6_isTarget hd6_isTarget ⟨⟨rfl, rfl⟩, by decide, by decide⟩ ⟨Nat.zero_le _, Nat.zero_le _⟩ hl.1 rfl (Nat.le_of_ble_eq_true rfl) d6_begin_3 ?_
  refine lv_if_ne (tgt := 11) hx hb d6_begin_6 (by decide) (fun c_1 => ?_) (fun c_1 => ?_)
  · refine lv_aload_n hx hb d6_begin_11 rfl (lv_at hl 0 rfl) ?_
    refine sr_get (v := .int (S 0 0 9)) hx hb hw hown hK hB 9 (hX.1 0 (by decide)) cf_0 us6 (by decide) fl_6_58 (rfl) d6_begin_12 ?_
    refine lv_iconst (v := (-1)) hx hb d6_begin_15 (by decide) ?_
    refine lv_icmp_ne (tgt := 22) hx hb d6_begin_16 (by decide) (fun c_2 => ?_) (fun c_2 => ?_)
    · refine lv_iload_n hx hb d6_begin_22 rfl (lv_at hl 1 rfl) ?_
      refine lv_iconst (v := 1) hx hb d6_begin_23 (by decide) ?_
      refine lv_icmp_ne (tgt := 37) hx hb d6_begin_24 (by decide) (fun c_3 => ?_) (fun c_3 => ?_)
      · refine lv_aload_n hx hb d6_begin_37 rfl (lv_at hl 0 rfl) ?_
        refine sr_vp C0 hB (m6_isHandlerIn hX  ) (hX.1 0 (by decide)) cf_0 ml_6_130 im_6_isHandlerIn se_6_isHandlerIn in_6 cd_6_isHandlerIn hd6_isHandlerIn ⟨⟨rfl, rfl⟩, by decide, by decide⟩ ⟨Nat.zero_le _, Nat.zero_le _⟩ hl.1 rfl (Nat.le_of_ble_eq_true rfl) d6_begin_38 ?_
        refine lv_if_ne (tgt := 47) hx hb d6_begin_41 (by decide) (fun c_4 => ?_) (fun c_4 => ?_)
        · refine lv_aload_n hx hb d6_begin_47 rfl (lv_at hl 0 rfl) ?_
          refine sr_get (v := .ref (ad 5 0)) hx hb hw hown hK hB 4 (hX.1 0 (by decide)) cf_0 us6 (by decide) fl_6_36 (rfl) d6_begin_48 ?_
          refine sr_vp C0 hB (m4_isOpen hX  ) (hX.1 5 (by decide)) cf_5 ml_6_87 im_4_isOpen se_4_isOpen in_4 cd_4_isOpen hd4_isOpen ⟨⟨rfl, rfl⟩, by decide, by decide⟩ ⟨Nat.zero_le _, Nat.zero_le _⟩ hl.1 rfl (Nat.le_of_ble_eq_true rfl) d6_begin_51 ?_
          refine lv_if_eq (tgt := 60) hx hb d6_begin_54 (by decide) (fun c_5 => ?_) (fun c_5 => ?_)
          · refine lv_aload_n hx hb d6_begin_60 rfl (lv_at hl 0 rfl) ?_
            refine lv_iload_n hx hb d6_begin_61 rfl (lv_at hl 1 rfl) ?_
            refine lv_iload_n hx hb d6_begin_62 rfl (lv_at hl 2 rfl) ?_
            refine sr_vp C0 hB (m6_wantsWitness hX x1 x2 ((isTarget_t c_1).1) (by (have kc_3 := ne_i c_3); (have l1 : (1 : Int32).toInt = 1 := rfl);  first | assumption | omega) (by (have kc_3 := ne_i c_3); (have l1 : (1 : Int32).toInt = 1 := rfl);  first | assumption | omega)) (hX.1 0 (by decide)) cf_0 ml_6_133 im_6_wantsWitness se_6_wantsWitness in_6 cd_6_wantsWitness hd6_wantsWitness ⟨⟨rfl, rfl⟩, by decide, by decide⟩ ⟨Nat.zero_le _, Nat.zero_le _⟩ hl.1 rfl (Nat.le_of_ble_eq_true rfl) d6_begin_63 ?_
            refine lv_if_eq (tgt := 80) hx hb d6_begin_66 (by decide) (fun c_6 => ?_) (fun c_6 => ?_)
            · refine lv_iload_n hx hb d6_begin_80 rfl (lv_at hl 1 rfl) ?_
              refine lv_if_ne (tgt := 103) hx hb d6_begin_81 (by decide) (fun c_7 => ?_) (fun c_7 => ?_)
              · refine lv_iload_n hx hb d6_begin_103 rfl (lv_at hl 1 rfl) ?_
                refine lv_if_ne (tgt := 123) hx hb d6_begin_104 (by decide) (fun _ => ?_) (fun c => absurd c c_7)
                refine lv_iload_n hx hb d6_begin_123 rfl (lv_at hl 2 rfl) ?_
                refine lv_istore_n (lv' := [(3, .int x2), (0, .ref (ad 0 0)), (1, .int x1), (2, .int x2)]) hx hb d6_begin_124 rfl hl (by decide) rfl (fun ls hl => ?_)
                refine lv_iload_n hx hb d6_begin_125 rfl (lv_at hl 0 rfl) ?_
                refine lv_iconst (v := (-1)) hx hb d6_begin_126 (by decide) ?_
                refine lv_icmp_ne (tgt := 133) hx hb d6_begin_127 (by decide) (fun c_9 => ?_) (fun c_9 => ?_)
                · refine lv_aload_n hx hb d6_begin_133 rfl (lv_at hl 1 rfl) ?_
                  refine sr_get (v := .ref (ad 6 0)) hx hb hw hown hK hB 5 (hX.1 0 (by decide)) cf_0 us6 (by decide) fl_6_43 (rfl) d6_begin_134 ?_
                  refine sr_get (v := .int (S 6 0 1)) hx hb hw hown hK hB 1 (hX.1 6 (by decide)) cf_6 us2 (by decide) fl_6_146 (rfl) d6_begin_137 ?_
                  refine lv_sipush (v := 290) hx hb d6_begin_140 (by decide) ?_
                  refine lv_icmp_ge (tgt := 165) hx hb d6_begin_143 (by decide) (fun c_10 => ?_) (fun c_10 => ?_)
                  · refine lv_bipush (v := (-8)) hx hb d6_begin_165 (by decide) ?_
                    exact se_i C0 hB (by rw [if_neg c_1, if_neg c_2, if_neg c_3, if_neg c_4, if_pos c_5, if_pos c_6, if_neg c_7, if_neg c_9, if_pos c_10] at hO; exact hO) d6_begin_167
                  · refine lv_iload_n hx hb d6_begin_146 rfl (lv_at hl 2 rfl) ?_
                    refine lv_iconst (v := 1) hx hb d6_begin_147 (by decide) ?_
                    refine lv_icmp_ne (tgt := 168) hx hb d6_begin_148 (by decide) (fun _ => ?_) (fun c => absurd c c_3)
                    refine lv_aload_n hx hb d6_begin_168 rfl (lv_at hl 1 rfl) ?_
                    refine sr_get (v := .ref (ad 5 0)) hx hb hw hown hK hB 4 (hX.1 0 (by decide)) cf_0 us6 (by decide) fl_6_36 (rfl) d6_begin_169 ?_
                    refine lv_iload_n hx hb d6_begin_172 rfl (lv_at hl 2 rfl) ?_
                    refine lv_iload_n hx hb d6_begin_173 rfl (lv_at hl 0 rfl) ?_
                    refine lv_iload_n hx hb d6_begin_174 rfl (lv_at hl 2 rfl) ?_
                    refine lv_if_ne (tgt := 182) hx hb d6_begin_175 (by decide) (fun _ => ?_) (fun c => absurd c c_7)
                    refine lv_iconst (v := (-1)) hx hb d6_begin_182 (by decide) ?_
                    refine lv_aload_n hx hb d6_begin_183 rfl (lv_at hl 1 rfl) ?_
                    refine sr_get (v := .int (S 0 0 8)) hx hb hw hown hK hB 8 (hX.1 0 (by decide)) cf_0 us6 (by decide) fl_6_54 (rfl) d6_begin_184 ?_
                    refine sr_vv C0 hB (m4_open hX x1 x2 (-1) (S 0 0 8) ) (hX.1 5 (by decide)) cf_5 ml_6_152 im_4_open se_4_open in_4 cd_4_open hd4_open ⟨⟨rfl, rfl⟩, by decide, by decide⟩ ⟨Nat.zero_le _, Nat.zero_le _⟩ hl.1 rfl (Nat.le_of_ble_eq_true rfl) d6_begin_187 (fun H locs hB => ?_)
                    exact k6_begin_190 C0 hB hX x1 x2 x2 (by first | exact isTarget_b c_1 hoc.2 | exact bt_64 (by assumption)) (lv_sub hl [1, 2, 3, 0] rfl) (by rw [if_neg c_1, if_neg c_2, if_neg c_3, if_neg c_4, if_pos c_5, if_pos c_6, if_neg c_7, if_neg c_9, if_neg c_10] at hO; exact hO)
                · refine lv_bipush (v := (-7)) hx hb d6_begin_130 (by decide) ?_
                  exact se_i C0 hB (by rw [if_neg c_1, if_neg c_2, if_neg c_3, if_neg c_4, if_pos c_5, if_pos c_6, if_neg c_7, if_pos c_9] at hO; exact hO) d6_begin_132
              · refine lv_aload_n hx hb d6_begin_84 rfl (lv_at hl 0 rfl) ?_
                refine sr_get (v := .ref (ad 4 0)) hx hb hw hown hK hB 3 (hX.1 0 (by decide)) cf_0 us6 (by decide) fl_6_29 (rfl) d6_begin_85 ?_
                refine lv_iload_n hx hb d6_begin_88 rfl (lv_at hl 2 rfl) ?_
                refine sr_aald (v := some (x2.toNatClampNeg)) hx hb hK hB (hX.1 4 (by decide)) rfl rfl rfl (by (have q := (isTarget_t c_1).1 (by assumption)); exact vp_in_iff.mpr (show _ ∧ _ < ((60 : Nat) : Int) by omega)) d6_begin_89 (by exact (go hX (i := x2.toNatClampNeg) (by (have q := (isTarget_t c_1).1 (by assumption)); exact hgo _ (by have := cl_i q.1; omega))).1) ?_
                refine lv_aload_n hx hb d6_begin_90 rfl (lv_at hl 0 rfl) ?_
                refine sr_get (v := .int (S 0 0 8)) hx hb hw hown hK hB 8 (hX.1 0 (by decide)) cf_0 us6 (by decide) fl_6_54 (rfl) d6_begin_91 ?_
                refine sr_vp C0 hB (m3_mayTake hX (x2.toNatClampNeg) (S 0 0 8) (go hX (i := x2.toNatClampNeg) (by (have q := (isTarget_t c_1).1 (by assumption)); exact hgo _ (by have := cl_i q.1; omega))).2) (go hX (i := x2.toNatClampNeg) (by (have q := (isTarget_t c_1).1 (by assumption)); exact hgo _ (by have := cl_i q.1; omega))).2 cf_14 ml_6_136 im_3_mayTake se_3_mayTake in_3 cd_3_mayTake hd3_mayTake ⟨⟨rfl, rfl⟩, by decide, by decide⟩ ⟨Nat.zero_le _, Nat.zero_le _⟩ hl.1 rfl (Nat.le_of_ble_eq_true rfl) d6_begin_94 ?_
                refine lv_if_ne (tgt := 103) hx hb d6_begin_97 (by decide) (fun c_13 => ?_) (fun c_13 => ?_)
                · refine lv_iload_n hx hb d6_begin_103 rfl (lv_at hl 1 rfl) ?_
                  refine lv_if_ne (tgt := 123) hx hb d6_begin_104 (by decide) (fun c => absurd c_7 c) (fun _ => ?_)
                  refine lv_aload_n hx hb d6_begin_107 rfl (lv_at hl 0 rfl) ?_
                  refine lv_aload_n hx hb d6_begin_108 rfl (lv_at hl 0 rfl) ?_
                  refine sr_get (v := .ref (ad 4 0)) hx hb hw hown hK hB 3 (hX.1 0 (by decide)) cf_0 us6 (by decide) fl_6_29 (rfl) d6_begin_109 ?_
                  refine lv_iload_n hx hb d6_begin_112 rfl (lv_at hl 2 rfl) ?_
                  refine sr_aald (v := some (x2.toNatClampNeg)) hx hb hK hB (hX.1 4 (by decide)) rfl rfl rfl (by (have q := (isTarget_t c_1).1 (by assumption)); exact vp_in_iff.mpr (show _ ∧ _ < ((60 : Nat) : Int) by omega)) d6_begin_113 (by exact (go hX (i := x2.toNatClampNeg) (by (have q := (isTarget_t c_1).1 (by assumption)); exact hgo _ (by have := cl_i q.1; omega))).1) ?_
                  refine sr_get (v := .int (S 14 (x2.toNatClampNeg) 0)) hx hb hw hown hK hB 0 (go hX (i := x2.toNatClampNeg) (by (have q := (isTarget_t c_1).1 (by assumption)); exact hgo _ (by have := cl_i q.1; omega))).2 cf_14 us3 (by decide) fl_6_139 (rfl) d6_begin_114 ?_
                  refine sr_vp C0 hB (m6_binToTakeFrom hX (S 14 (x2.toNatClampNeg) 0) (by  first | assumption | omega)) (hX.1 0 (by decide)) cf_0 ml_6_142 im_6_binToTakeFrom se_6_binToTakeFrom in_6 cd_6_binToTakeFrom hd6_binToTakeFrom ⟨⟨rfl, rfl⟩, by decide, by decide⟩ ⟨Nat.zero_le _, Nat.zero_le _⟩ hl.1 rfl (Nat.le_of_ble_eq_true rfl) d6_begin_117 ?_
                  refine lv_goto (tgt := 124) hx hb d6_begin_120 (by decide) ?_
                  refine lv_istore_n (lv' := [(3, .int (V6_binToTakeFrom S A G (S 14 (x2.toNatClampNeg) 0))), (0, .ref (ad 0 0)), (1, .int x1), (2, .int x2)]) hx hb d6_begin_124 rfl hl (by decide) rfl (fun ls hl => ?_)
                  refine lv_iload_n hx hb d6_begin_125 rfl (lv_at hl 0 rfl) ?_
                  refine lv_iconst (v := (-1)) hx hb d6_begin_126 (by decide) ?_
                  refine lv_icmp_ne (tgt := 133) hx hb d6_begin_127 (by decide) (fun c_15 => ?_) (fun c_15 => ?_)
                  · refine lv_aload_n hx hb d6_begin_133 rfl (lv_at hl 1 rfl) ?_
                    refine sr_get (v := .ref (ad 6 0)) hx hb hw hown hK hB 5 (hX.1 0 (by decide)) cf_0 us6 (by decide) fl_6_43 (rfl) d6_begin_134 ?_
                    refine sr_get (v := .int (S 6 0 1)) hx hb hw hown hK hB 1 (hX.1 6 (by decide)) cf_6 us2 (by decide) fl_6_146 (rfl) d6_begin_137 ?_
                    refine lv_sipush (v := 290) hx hb d6_begin_140 (by decide) ?_
                    refine lv_icmp_ge (tgt := 165) hx hb d6_begin_143 (by decide) (fun c_16 => ?_) (fun c_16 => ?_)
                    · refine lv_bipush (v := (-8)) hx hb d6_begin_165 (by decide) ?_
                      exact se_i C0 hB (by rw [if_neg c_1, if_neg c_2, if_neg c_3, if_neg c_4, if_pos c_5, if_pos c_6, if_pos c_7, if_neg c_13, if_neg c_15, if_pos c_16] at hO; exact hO) d6_begin_167
                    · refine lv_iload_n hx hb d6_begin_146 rfl (lv_at hl 2 rfl) ?_
                      refine lv_iconst (v := 1) hx hb d6_begin_147 (by decide) ?_
                      refine lv_icmp_ne (tgt := 168) hx hb d6_begin_148 (by decide) (fun _ => ?_) (fun c => absurd c c_3)
                      refine lv_aload_n hx hb d6_begin_168 rfl (lv_at hl 1 rfl) ?_
                      refine sr_get (v := .ref (ad 5 0)) hx hb hw hown hK hB 4 (hX.1 0 (by decide)) cf_0 us6 (by decide) fl_6_36 (rfl) d6_begin_169 ?_
                      refine lv_iload_n hx hb d6_begin_172 rfl (lv_at hl 2 rfl) ?_
                      refine lv_iload_n hx hb d6_begin_173 rfl (lv_at hl 0 rfl) ?_
                      refine lv_iload_n hx hb d6_begin_174 rfl (lv_at hl 2 rfl) ?_
                      refine lv_if_ne (tgt := 182) hx hb d6_begin_175 (by decide) (fun c => absurd c_7 c) (fun _ => ?_)
                      refine lv_iload_n hx hb d6_begin_178 rfl (lv_at hl 3 rfl) ?_
                      refine lv_goto (tgt := 183) hx hb d6_begin_179 (by decide) ?_
                      refine lv_aload_n hx hb d6_begin_183 rfl (lv_at hl 1 rfl) ?_
                      refine sr_get (v := .int (S 0 0 8)) hx hb hw hown hK hB 8 (hX.1 0 (by decide)) cf_0 us6 (by decide) fl_6_54 (rfl) d6_begin_184 ?_
                      refine sr_vv C0 hB (m4_open hX x1 (V6_binToTakeFrom S A G (S 14 (x2.toNatClampNeg) 0)) x2 (S 0 0 8) ) (hX.1 5 (by decide)) cf_5 ml_6_152 im_4_open se_4_open in_4 cd_4_open hd4_open ⟨⟨rfl, rfl⟩, by decide, by decide⟩ ⟨Nat.zero_le _, Nat.zero_le _⟩ hl.1 rfl (Nat.le_of_ble_eq_true rfl) d6_begin_187 (fun H locs hB => ?_)
                      exact k6_begin_190 C0 hB hX x1 x2 (V6_binToTakeFrom S A G (S 14 (x2.toNatClampNeg) 0)) (by first | exact isTarget_b c_1 hoc.2 | exact bt_64 (by assumption)) (lv_sub hl [1, 2, 3, 0] rfl) (by rw [if_neg c_1, if_neg c_2, if_neg c_3, if_neg c_4, if_pos c_5, if_pos c_6, if_pos c_7, if_neg c_13, if_neg c_15, if_neg c_16] at hO; exact hO)
                  · refine lv_bipush (v := (-7)) hx hb d6_begin_130 (by decide) ?_
                    exact se_i C0 hB (by rw [if_neg c_1, if_neg c_2, if_neg c_3, if_neg c_4, if_pos c_5, if_pos c_6, if_pos c_7, if_neg c_13, if_pos c_15] at hO; exact hO) d6_begin_132
                · refine lv_bipush (v := (-6)) hx hb d6_begin_100 (by decide) ?_
                  exact se_i C0 hB (by rw [if_neg c_1, if_neg c_2, if_neg c_3, if_neg c_4, if_pos c_5, if_pos c_6, if_pos c_7, if_pos c_13] at hO; exact hO) d6_begin_102
            · refine lv_aload_n hx hb d6_begin_69 rfl (lv_at hl 0 rfl) ?_
              refine sr_get (v := .int (S 0 0 11)) hx hb hw hown hK hB 11 (hX.1 0 (by decide)) cf_0 us6 (by decide) fl_6_64 (rfl) d6_begin_70 ?_
              refine lv_iconst (v := (-1)) hx hb d6_begin_73 (by decide) ?_
              refine lv_icmp_ne (tgt := 80) hx hb d6_begin_74 (by decide) (fun c_19 => ?_) (fun c_19 => ?_)
              · refine lv_iload_n hx hb d6_begin_80 rfl (lv_at hl 1 rfl) ?_
                refine lv_if_ne (tgt := 103) hx hb d6_begin_81 (by decide) (fun c_20 => ?_) (fun c_20 => ?_)
                · refine lv_iload_n hx hb d6_begin_103 rfl (lv_at hl 1 rfl) ?_
                  refine lv_if_ne (tgt := 123) hx hb d6_begin_104 (by decide) (fun _ => ?_) (fun c => absurd c c_20)
                  refine lv_iload_n hx hb d6_begin_123 rfl (lv_at hl 2 rfl) ?_
                  refine lv_istore_n (lv' := [(3, .int x2), (0, .ref (ad 0 0)), (1, .int x1), (2, .int x2)]) hx hb d6_begin_124 rfl hl (by decide) rfl (fun ls hl => ?_)
                  refine lv_iload_n hx hb d6_begin_125 rfl (lv_at hl 0 rfl) ?_
                  refine lv_iconst (v := (-1)) hx hb d6_begin_126 (by decide) ?_
                  refine lv_icmp_ne (tgt := 133) hx hb d6_begin_127 (by decide) (fun c_22 => ?_) (fun c_22 => ?_)
                  · refine lv_aload_n hx hb d6_begin_133 rfl (lv_at hl 1 rfl) ?_
                    refine sr_get (v := .ref (ad 6 0)) hx hb hw hown hK hB 5 (hX.1 0 (by decide)) cf_0 us6 (by decide) fl_6_43 (rfl) d6_begin_134 ?_
                    refine sr_get (v := .int (S 6 0 1)) hx hb hw hown hK hB 1 (hX.1 6 (by decide)) cf_6 us2 (by decide) fl_6_146 (rfl) d6_begin_137 ?_
                    refine lv_sipush (v := 290) hx hb d6_begin_140 (by decide) ?_
                    refine lv_icmp_ge (tgt := 165) hx hb d6_begin_143 (by decide) (fun c_23 => ?_) (fun c_23 => ?_)
                    · refine lv_bipush (v := (-8)) hx hb d6_begin_165 (by decide) ?_
                      exact se_i C0 hB (by rw [if_neg c_1, if_neg c_2, if_neg c_3, if_neg c_4, if_pos c_5, if_neg c_6, if_neg c_19, if_neg c_20, if_neg c_22, if_pos c_23] at hO; exact hO) d6_begin_167
                    · refine lv_iload_n hx hb d6_begin_146 rfl (lv_at hl 2 rfl) ?_
                      refine lv_iconst (v := 1) hx hb d6_begin_147 (by decide) ?_
                      refine lv_icmp_ne (tgt := 168) hx hb d6_begin_148 (by decide) (fun _ => ?_) (fun c => absurd c c_3)
                      refine lv_aload_n hx hb d6_begin_168 rfl (lv_at hl 1 rfl) ?_
                      refine sr_get (v := .ref (ad 5 0)) hx hb hw hown hK hB 4 (hX.1 0 (by decide)) cf_0 us6 (by decide) fl_6_36 (rfl) d6_begin_169 ?_
                      refine lv_iload_n hx hb d6_begin_172 rfl (lv_at hl 2 rfl) ?_
                      refine lv_iload_n hx hb d6_begin_173 rfl (lv_at hl 0 rfl) ?_
                      refine lv_iload_n hx hb d6_begin_174 rfl (lv_at hl 2 rfl) ?_
                      refine lv_if_ne (tgt := 182) hx hb d6_begin_175 (by decide) (fun _ => ?_) (fun c => absurd c c_20)
                      refine lv_iconst (v := (-1)) hx hb d6_begin_182 (by decide) ?_
                      refine lv_aload_n hx hb d6_begin_183 rfl (lv_at hl 1 rfl) ?_
                      refine sr_get (v := .int (S 0 0 8)) hx hb hw hown hK hB 8 (hX.1 0 (by decide)) cf_0 us6 (by decide) fl_6_54 (rfl) d6_begin_184 ?_
                      refine sr_vv C0 hB (m4_open hX x1 x2 (-1) (S 0 0 8) ) (hX.1 5 (by decide)) cf_5 ml_6_152 im_4_open se_4_open in_4 cd_4_open hd4_open ⟨⟨rfl, rfl⟩, by decide, by decide⟩ ⟨Nat.zero_le _, Nat.zero_le _⟩ hl.1 rfl (Nat.le_of_ble_eq_true rfl) d6_begin_187 (fun H locs hB => ?_)
                      exact k6_begin_190 C0 hB hX x1 x2 x2 (by first | exact isTarget_b c_1 hoc.2 | exact bt_64 (by assumption)) (lv_sub hl [1, 2, 3, 0] rfl) (by rw [if_neg c_1, if_neg c_2, if_neg c_3, if_neg c_4, if_pos c_5, if_neg c_6, if_neg c_19, if_neg c_20, if_neg c_22, if_neg c_23] at hO; exact hO)
                  · refine lv_bipush (v := (-7)) hx hb d6_begin_130 (by decide) ?_
                    exact se_i C0 hB (by rw [if_neg c_1, if_neg c_2, if_neg c_3, if_neg c_4, if_pos c_5, if_neg c_6, if_neg c_19, if_neg c_20, if_pos c_22] at hO; exact hO) d6_begin_132
                · refine lv_aload_n hx hb d6_begin_84 rfl (lv_at hl 0 rfl) ?_
                  refine sr_get (v := .ref (ad 4 0)) hx hb hw hown hK hB 3 (hX.1 0 (by decide)) cf_0 us6 (by decide) fl_6_29 (rfl) d6_begin_85 ?_
                  refine lv_iload_n hx hb d6_begin_88 rfl (lv_at hl 2 rfl) ?_
                  refine sr_aald (v := some (x2.toNatClampNeg)) hx hb hK hB (hX.1 4 (by decide)) rfl rfl rfl (by (have q := (isTarget_t c_1).1 (by assumption)); exact vp_in_iff.mpr (show _ ∧ _ < ((60 : Nat) : Int) by omega)) d6_begin_89 (by exact (go hX (i := x2.toNatClampNeg) (by (have q := (isTarget_t c_1).1 (by assumption)); exact hgo _ (by have := cl_i q.1; omega))).1) ?_
                  refine lv_aload_n hx hb d6_begin_90 rfl (lv_at hl 0 rfl) ?_
                  refine sr_get (v := .int (S 0 0 8)) hx hb hw hown hK hB 8 (hX.1 0 (by decide)) cf_0 us6 (by decide) fl_6_54 (rfl) d6_begin_91 ?_
                  refine sr_vp C0 hB (m3_mayTake hX (x2.toNatClampNeg) (S 0 0 8) (go hX (i := x2.toNatClampNeg) (by (have q := (isTarget_t c_1).1 (by assumption)); exact hgo _ (by have := cl_i q.1; omega))).2) (go hX (i := x2.toNatClampNeg) (by (have q := (isTarget_t c_1).1 (by assumption)); exact hgo _ (by have := cl_i q.1; omega))).2 cf_14 ml_6_136 im_3_mayTake se_3_mayTake in_3 cd_3_mayTake hd3_mayTake ⟨⟨rfl, rfl⟩, by decide, by decide⟩ ⟨Nat.zero_le _, Nat.zero_le _⟩ hl.1 rfl (Nat.le_of_ble_eq_true rfl) d6_begin_94 ?_
                  refine lv_if_ne (tgt := 103) hx hb d6_begin_97 (by decide) (fun c_26 => ?_) (fun c_26 => ?_)
                  · refine lv_iload_n hx hb d6_begin_103 rfl (lv_at hl 1 rfl) ?_
                    refine lv_if_ne (tgt := 123) hx hb d6_begin_104 (by decide) (fun c => absurd c_20 c) (fun _ => ?_)
                    refine lv_aload_n hx hb d6_begin_107 rfl (lv_at hl 0 rfl) ?_
                    refine lv_aload_n hx hb d6_begin_108 rfl (lv_at hl 0 rfl) ?_
                    refine sr_get (v := .ref (ad 4 0)) hx hb hw hown hK hB 3 (hX.1 0 (by decide)) cf_0 us6 (by decide) fl_6_29 (rfl) d6_begin_109 ?_
                    refine lv_iload_n hx hb d6_begin_112 rfl (lv_at hl 2 rfl) ?_
                    refine sr_aald (v := some (x2.toNatClampNeg)) hx hb hK hB (hX.1 4 (by decide)) rfl rfl rfl (by (have q := (isTarget_t c_1).1 (by assumption)); exact vp_in_iff.mpr (show _ ∧ _ < ((60 : Nat) : Int) by omega)) d6_begin_113 (by exact (go hX (i := x2.toNatClampNeg) (by (have q := (isTarget_t c_1).1 (by assumption)); exact hgo _ (by have := cl_i q.1; omega))).1) ?_
                    refine sr_get (v := .int (S 14 (x2.toNatClampNeg) 0)) hx hb hw hown hK hB 0 (go hX (i := x2.toNatClampNeg) (by (have q := (isTarget_t c_1).1 (by assumption)); exact hgo _ (by have := cl_i q.1; omega))).2 cf_14 us3 (by decide) fl_6_139 (rfl) d6_begin_114 ?_
                    refine sr_vp C0 hB (m6_binToTakeFrom hX (S 14 (x2.toNatClampNeg) 0) (by  first | assumption | omega)) (hX.1 0 (by decide)) cf_0 ml_6_142 im_6_binToTakeFrom se_6_binToTakeFrom in_6 cd_6_binToTakeFrom hd6_binToTakeFrom ⟨⟨rfl, rfl⟩, by decide, by decide⟩ ⟨Nat.zero_le _, Nat.zero_le _⟩ hl.1 rfl (Nat.le_of_ble_eq_true rfl) d6_begin_117 ?_
                    refine lv_goto (tgt := 124) hx hb d6_begin_120 (by decide) ?_
                    refine lv_istore_n (lv' := [(3, .int (V6_binToTakeFrom S A G (S 14 (x2.toNatClampNeg) 0))), (0, .ref (ad 0 0)), (1, .int x1), (2, .int x2)]) hx hb d6_begin_124 rfl hl (by decide) rfl (fun ls hl => ?_)
                    refine lv_iload_n hx hb d6_begin_125 rfl (lv_at hl 0 rfl) ?_
                    refine lv_iconst (v := (-1)) hx hb d6_begin_126 (by decide) ?_
                    refine lv_icmp_ne (tgt := 133) hx hb d6_begin_127 (by decide) (fun c_28 => ?_) (fun c_28 => ?_)
                    · refine lv_aload_n hx hb d6_begin_133 rfl (lv_at hl 1 rfl) ?_
                      refine sr_get (v := .ref (ad 6 0)) hx hb hw hown hK hB 5 (hX.1 0 (by decide)) cf_0 us6 (by decide) fl_6_43 (rfl) d6_begin_134 ?_
                      refine sr_get (v := .int (S 6 0 1)) hx hb hw hown hK hB 1 (hX.1 6 (by decide)) cf_6 us2 (by decide) fl_6_146 (rfl) d6_begin_137 ?_
                      refine lv_sipush (v := 290) hx hb d6_begin_140 (by decide) ?_
                      refine lv_icmp_ge (tgt := 165) hx hb d6_begin_143 (by decide) (fun c_29 => ?_) (fun c_29 => ?_)
                      · refine lv_bipush (v := (-8)) hx hb d6_begin_165 (by decide) ?_
                        exact se_i C0 hB (by rw [if_neg c_1, if_neg c_2, if_neg c_3, if_neg c_4, if_pos c_5, if_neg c_6, if_neg c_19, if_pos c_20, if_neg c_26, if_neg c_28, if_pos c_29] at hO; exact hO) d6_begin_167
                      · refine lv_iload_n hx hb d6_begin_146 rfl (lv_at hl 2 rfl) ?_
                        refine lv_iconst (v := 1) hx hb d6_begin_147 (by decide) ?_
                        refine lv_icmp_ne (tgt := 168) hx hb d6_begin_148 (by decide) (fun _ => ?_) (fun c => absurd c c_3)
                        refine lv_aload_n hx hb d6_begin_168 rfl (lv_at hl 1 rfl) ?_
                        refine sr_get (v := .ref (ad 5 0)) hx hb hw hown hK hB 4 (hX.1 0 (by decide)) cf_0 us6 (by decide) fl_6_36 (rfl) d6_begin_169 ?_
                        refine lv_iload_n hx hb d6_begin_172 rfl (lv_at hl 2 rfl) ?_
                        refine lv_iload_n hx hb d6_begin_173 rfl (lv_at hl 0 rfl) ?_
                        refine lv_iload_n hx hb d6_begin_174 rfl (lv_at hl 2 rfl) ?_
                        refine lv_if_ne (tgt := 182) hx hb d6_begin_175 (by decide) (fun c => absurd c_20 c) (fun _ => ?_)
                        refine lv_iload_n hx hb d6_begin_178 rfl (lv_at hl 3 rfl) ?_
                        refine lv_goto (tgt := 183) hx hb d6_begin_179 (by decide) ?_
                        refine lv_aload_n hx hb d6_begin_183 rfl (lv_at hl 1 rfl) ?_
                        refine sr_get (v := .int (S 0 0 8)) hx hb hw hown hK hB 8 (hX.1 0 (by decide)) cf_0 us6 (by decide) fl_6_54 (rfl) d6_begin_184 ?_
                        refine sr_vv C0 hB (m4_open hX x1 (V6_binToTakeFrom S A G (S 14 (x2.toNatClampNeg) 0)) x2 (S 0 0 8) ) (hX.1 5 (by decide)) cf_5 ml_6_152 im_4_open se_4_open in_4 cd_4_open hd4_open ⟨⟨rfl, rfl⟩, by decide, by decide⟩ ⟨Nat.zero_le _, Nat.zero_le _⟩ hl.1 rfl (Nat.le_of_ble_eq_true rfl) d6_begin_187 (fun H locs hB => ?_)
                        exact k6_begin_190 C0 hB hX x1 x2 (V6_binToTakeFrom S A G (S 14 (x2.toNatClampNeg) 0)) (by first | exact isTarget_b c_1 hoc.2 | exact bt_64 (by assumption)) (lv_sub hl [1, 2, 3, 0] rfl) (by rw [if_neg c_1, if_neg c_2, if_neg c_3, if_neg c_4, if_pos c_5, if_neg c_6, if_neg c_19, if_pos c_20, if_neg c_26, if_neg c_28, if_neg c_29] at hO; exact hO)
                    · refine lv_bipush (v := (-7)) hx hb d6_begin_130 (by decide) ?_
                      exact se_i C0 hB (by rw [if_neg c_1, if_neg c_2, if_neg c_3, if_neg c_4, if_pos c_5, if_neg c_6, if_neg c_19, if_pos c_20, if_neg c_26, if_pos c_28] at hO; exact hO) d6_begin_132
                  · refine lv_bipush (v := (-6)) hx hb d6_begin_100 (by decide) ?_
                    exact se_i C0 hB (by rw [if_neg c_1, if_neg c_2, if_neg c_3, if_neg c_4, if_pos c_5, if_neg c_6, if_neg c_19, if_pos c_20, if_pos c_26] at hO; exact hO) d6_begin_102
              · refine lv_bipush (v := (-5)) hx hb d6_begin_77 (by decide) ?_
                exact se_i C0 hB (by rw [if_neg c_1, if_neg c_2, if_neg c_3, if_neg c_4, if_pos c_5, if_neg c_6, if_pos c_19] at hO; exact hO) d6_begin_79
          · refine lv_bipush (v := (-4)) hx hb d6_begin_57 (by decide) ?_
            exact se_i C0 hB (by rw [if_neg c_1, if_neg c_2, if_neg c_3, if_neg c_4, if_neg c_5] at hO; exact hO) d6_begin_59
        · refine lv_bipush (v := (-3)) hx hb d6_begin_44 (by decide) ?_
          exact se_i C0 hB (by rw [if_neg c_1, if_neg c_2, if_neg c_3, if_pos c_4] at hO; exact hO) d6_begin_46
      · refine lv_aload_n hx hb d6_begin_27 rfl (lv_at hl 0 rfl) ?_
        refine sr_vp C0 hB (m6_isPharmacistIn hX  ) (hX.1 0 (by decide)) cf_0 ml_6_105 im_6_isPharmacistIn se_6_isPharmacistIn in_6 cd_6_isPharmacistIn hd6_isPharmacistIn ⟨⟨rfl, rfl⟩, by decide, by decide⟩ ⟨Nat.zero_le _, Nat.zero_le _⟩ hl.1 rfl (Nat.le_of_ble_eq_true rfl) d6_begin_28 ?_
        refine lv_if_ne (tgt := 47) hx hb d6_begin_31 (by decide) (fun c_32 => ?_) (fun c_32 => ?_)
        · refine lv_aload_n hx hb d6_begin_47 rfl (lv_at hl 0 rfl) ?_
          refine sr_get (v := .ref (ad 5 0)) hx hb hw hown hK hB 4 (hX.1 0 (by decide)) cf_0 us6 (by decide) fl_6_36 (rfl) d6_begin_48 ?_
          refine sr_vp C0 hB (m4_isOpen hX  ) (hX.1 5 (by decide)) cf_5 ml_6_87 im_4_isOpen se_4_isOpen in_4 cd_4_isOpen hd4_isOpen ⟨⟨rfl, rfl⟩, by decide, by decide⟩ ⟨Nat.zero_le _, Nat.zero_le _⟩ hl.1 rfl (Nat.le_of_ble_eq_true rfl) d6_begin_51 ?_
          refine lv_if_eq (tgt := 60) hx hb d6_begin_54 (by decide) (fun c_33 => ?_) (fun c_33 => ?_)
          · refine lv_aload_n hx hb d6_begin_60 rfl (lv_at hl 0 rfl) ?_
            refine lv_iload_n hx hb d6_begin_61 rfl (lv_at hl 1 rfl) ?_
            refine lv_iload_n hx hb d6_begin_62 rfl (lv_at hl 2 rfl) ?_
            refine sr_vp C0 hB (m6_wantsWitness hX x1 x2 ((isTarget_t c_1).1) (by (have kc_3 := congrArg Int32.toInt c_3); (have l1 : (1 : Int32).toInt = 1 := rfl);  first | assumption | omega) (by (have kc_3 := congrArg Int32.toInt c_3); (have l1 : (1 : Int32).toInt = 1 := rfl);  first | assumption | omega)) (hX.1 0 (by decide)) cf_0 ml_6_133 im_6_wantsWitness se_6_wantsWitness in_6 cd_6_wantsWitness hd6_wantsWitness ⟨⟨rfl, rfl⟩, by decide, by decide⟩ ⟨Nat.zero_le _, Nat.zero_le _⟩ hl.1 rfl (Nat.le_of_ble_eq_true rfl) d6_begin_63 ?_
            refine lv_if_eq (tgt := 80) hx hb d6_begin_66 (by decide) (fun c_34 => ?_) (fun c_34 => ?_)
            · refine lv_iload_n hx hb d6_begin_80 rfl (lv_at hl 1 rfl) ?_
              refine lv_if_ne (tgt := 103) hx hb d6_begin_81 (by decide) (fun _ => ?_) (fun c => absurd c (by rw [c_3]; decide))
              refine lv_iload_n hx hb d6_begin_103 rfl (lv_at hl 1 rfl) ?_
              refine lv_if_ne (tgt := 123) hx hb d6_begin_104 (by decide) (fun _ => ?_) (fun c => absurd c (by rw [c_3]; decide))
              refine lv_iload_n hx hb d6_begin_123 rfl (lv_at hl 2 rfl) ?_
              refine lv_istore_n (lv' := [(3, .int x2), (0, .ref (ad 0 0)), (1, .int x1), (2, .int x2)]) hx hb d6_begin_124 rfl hl (by decide) rfl (fun ls hl => ?_)
              refine lv_iload_n hx hb d6_begin_125 rfl (lv_at hl 0 rfl) ?_
              refine lv_iconst (v := (-1)) hx hb d6_begin_126 (by decide) ?_
              refine lv_icmp_ne (tgt := 133) hx hb d6_begin_127 (by decide) (fun c_37 => ?_) (fun c_37 => ?_)
              · refine lv_aload_n hx hb d6_begin_133 rfl (lv_at hl 1 rfl) ?_
                refine sr_get (v := .ref (ad 6 0)) hx hb hw hown hK hB 5 (hX.1 0 (by decide)) cf_0 us6 (by decide) fl_6_43 (rfl) d6_begin_134 ?_
                refine sr_get (v := .int (S 6 0 1)) hx hb hw hown hK hB 1 (hX.1 6 (by decide)) cf_6 us2 (by decide) fl_6_146 (rfl) d6_begin_137 ?_
                refine lv_sipush (v := 290) hx hb d6_begin_140 (by decide) ?_
                refine lv_icmp_ge (tgt := 165) hx hb d6_begin_143 (by decide) (fun c_38 => ?_) (fun c_38 => ?_)
                · refine lv_bipush (v := (-8)) hx hb d6_begin_165 (by decide) ?_
                  exact se_i C0 hB (by rw [if_neg c_1, if_neg c_2, if_pos c_3, if_neg c_32, if_pos c_33, if_pos c_34, if_neg c_37, if_pos c_38] at hO; exact hO) d6_begin_167
                · refine lv_iload_n hx hb d6_begin_146 rfl (lv_at hl 2 rfl) ?_
                  refine lv_iconst (v := 1) hx hb d6_begin_147 (by decide) ?_
                  refine lv_icmp_ne (tgt := 168) hx hb d6_begin_148 (by decide) (fun c => absurd c_3 c) (fun _ => ?_)
                  refine lv_aload_n hx hb d6_begin_151 rfl (lv_at hl 1 rfl) ?_
                  refine sr_get (v := .ref (ad 3 0)) hx hb hw hown hK hB 2 (hX.1 0 (by decide)) cf_0 us6 (by decide) fl_6_23 (rfl) d6_begin_152 ?_
                  refine lv_iload_n hx hb d6_begin_155 rfl (lv_at hl 0 rfl) ?_
                  refine sr_aald (v := some (x2.toNatClampNeg)) hx hb hK hB (hX.1 3 (by decide)) rfl rfl rfl (by (refine vp_in_iff.mpr ?_); (show 0 ≤ x2.toInt ∧ x2.toInt < ((64 : Nat) : Int)); (have kc_37 := ne_i c_37); (have lm1 := ln1); (have kt := isTarget_b c_1 hoc.2);  omega) d6_begin_156 (by exact gb hX (show x2.toNatClampNeg < 64 by (have kc_37 := ne_i c_37); (have lm1 := ln1); (have kt := isTarget_b c_1 hoc.2); (have cc9 := cl_i (x := x2) (by omega));  omega)) ?_
                  refine sr_get (v := .int (S 15 (x2.toNatClampNeg) 3)) hx hb hw hown hK hB 3 (hX.2.2.1 (x2.toNatClampNeg) (show x2.toNatClampNeg < 64 by (have kc_37 := ne_i c_37); (have lm1 := ln1); (have kt := isTarget_b c_1 hoc.2); (have cc9 := cl_i (x := x2) (by omega));  omega)).1 cf_15 us0 (by decide) fl_6_149 (rfl) d6_begin_157 ?_
                  refine lv_bipush (v := 6) hx hb d6_begin_160 (by decide) ?_
                  refine lv_icmp_lt (tgt := 168) hx hb d6_begin_162 (by decide) (fun c_40 => ?_) (fun c_40 => ?_)
                  · refine lv_aload_n hx hb d6_begin_168 rfl (lv_at hl 1 rfl) ?_
                    refine sr_get (v := .ref (ad 5 0)) hx hb hw hown hK hB 4 (hX.1 0 (by decide)) cf_0 us6 (by decide) fl_6_36 (rfl) d6_begin_169 ?_
                    refine lv_iload_n hx hb d6_begin_172 rfl (lv_at hl 2 rfl) ?_
                    refine lv_iload_n hx hb d6_begin_173 rfl (lv_at hl 0 rfl) ?_
                    refine lv_iload_n hx hb d6_begin_174 rfl (lv_at hl 2 rfl) ?_
                    refine lv_if_ne (tgt := 182) hx hb d6_begin_175 (by decide) (fun _ => ?_) (fun c => absurd c (by rw [c_3]; decide))
                    refine lv_iconst (v := (-1)) hx hb d6_begin_182 (by decide) ?_
                    refine lv_aload_n hx hb d6_begin_183 rfl (lv_at hl 1 rfl) ?_
                    refine sr_get (v := .int (S 0 0 8)) hx hb hw hown hK hB 8 (hX.1 0 (by decide)) cf_0 us6 (by decide) fl_6_54 (rfl) d6_begin_184 ?_
                    refine sr_vv C0 hB (m4_open hX x1 x2 (-1) (S 0 0 8) ) (hX.1 5 (by decide)) cf_5 ml_6_152 im_4_open se_4_open in_4 cd_4_open hd4_open ⟨⟨rfl, rfl⟩, by decide, by decide⟩ ⟨Nat.zero_le _, Nat.zero_le _⟩ hl.1 rfl (Nat.le_of_ble_eq_true rfl) d6_begin_187 (fun H locs hB => ?_)
                    exact k6_begin_190 C0 hB hX x1 x2 x2 (by first | exact isTarget_b c_1 hoc.2 | exact bt_64 (by assumption)) (lv_sub hl [1, 2, 3, 0] rfl) (by rw [if_neg c_1, if_neg c_2, if_pos c_3, if_neg c_32, if_pos c_33, if_pos c_34, if_neg c_37, if_neg c_38, if_pos c_40] at hO; exact hO)
                  · refine lv_bipush (v := (-8)) hx hb d6_begin_165 (by decide) ?_
                    exact se_i C0 hB (by rw [if_neg c_1, if_neg c_2, if_pos c_3, if_neg c_32, if_pos c_33, if_pos c_34, if_neg c_37, if_neg c_38, if_neg c_40] at hO; exact hO) d6_begin_167
              · refine lv_bipush (v := (-7)) hx hb d6_begin_130 (by decide) ?_
                exact se_i C0 hB (by rw [if_neg c_1, if_neg c_2, if_pos c_3, if_neg c_32, if_pos c_33, if_pos c_34, if_pos c_37] at hO; exact hO) d6_begin_132
            · refine lv_aload_n hx hb d6_begin_69 rfl (lv_at hl 0 rfl) ?_
              refine sr_get (v := .int (S 0 0 11)) hx hb hw hown hK hB 11 (hX.1 0 (by decide)) cf_0 us6 (by decide) fl_6_64 (rfl) d6_begin_70 ?_
              refine lv_iconst (v := (-1)) hx hb d6_begin_73 (by decide) ?_
              refine lv_icmp_ne (tgt := 80) hx hb d6_begin_74 (by decide) (fun c_42 => ?_) (fun c_42 => ?_)
              · refine lv_iload_n hx hb d6_begin_80 rfl (lv_at hl 1 rfl) ?_
                refine lv_if_ne (tgt := 103) hx hb d6_begin_81 (by decide) (fun _ => ?_) (fun c => absurd c (by rw [c_3]; decide))
                refine lv_iload_n hx hb d6_begin_103 rfl (lv_at hl 1 rfl) ?_
                refine lv_if_ne (tgt := 123) hx hb d6_begin_104 (by decide) (fun _ => ?_) (fun c => absurd c (by rw [c_3]; decide))
                refine lv_iload_n hx hb d6_begin_123 rfl (lv_at hl 2 rfl) ?_
                refine lv_istore_n (lv' := [(3, .int x2), (0, .ref (ad 0 0)), (1, .int x1), (2, .int x2)]) hx hb d6_begin_124 rfl hl (by decide) rfl (fun ls hl => ?_)
                refine lv_iload_n hx hb d6_begin_125 rfl (lv_at hl 0 rfl) ?_
                refine lv_iconst (v := (-1)) hx hb d6_begin_126 (by decide) ?_
                refine lv_icmp_ne (tgt := 133) hx hb d6_begin_127 (by decide) (fun c_45 => ?_) (fun c_45 => ?_)
                · refine lv_aload_n hx hb d6_begin_133 rfl (lv_at hl 1 rfl) ?_
                  refine sr_get (v := .ref (ad 6 0)) hx hb hw hown hK hB 5 (hX.1 0 (by decide)) cf_0 us6 (by decide) fl_6_43 (rfl) d6_begin_134 ?_
                  refine sr_get (v := .int (S 6 0 1)) hx hb hw hown hK hB 1 (hX.1 6 (by decide)) cf_6 us2 (by decide) fl_6_146 (rfl) d6_begin_137 ?_
                  refine lv_sipush (v := 290) hx hb d6_begin_140 (by decide) ?_
                  refine lv_icmp_ge (tgt := 165) hx hb d6_begin_143 (by decide) (fun c_46 => ?_) (fun c_46 => ?_)
                  · refine lv_bipush (v := (-8)) hx hb d6_begin_165 (by decide) ?_
                    exact se_i C0 hB (by rw [if_neg c_1, if_neg c_2, if_pos c_3, if_neg c_32, if_pos c_33, if_neg c_34, if_neg c_42, if_neg c_45, if_pos c_46] at hO; exact hO) d6_begin_167
                  · refine lv_iload_n hx hb d6_begin_146 rfl (lv_at hl 2 rfl) ?_
                    refine lv_iconst (v := 1) hx hb d6_begin_147 (by decide) ?_
                    refine lv_icmp_ne (tgt := 168) hx hb d6_begin_148 (by decide) (fun c => absurd c_3 c) (fun _ => ?_)
                    refine lv_aload_n hx hb d6_begin_151 rfl (lv_at hl 1 rfl) ?_
                    refine sr_get (v := .ref (ad 3 0)) hx hb hw hown hK hB 2 (hX.1 0 (by decide)) cf_0 us6 (by decide) fl_6_23 (rfl) d6_begin_152 ?_
                    refine lv_iload_n hx hb d6_begin_155 rfl (lv_at hl 0 rfl) ?_
                    refine sr_aald (v := some (x2.toNatClampNeg)) hx hb hK hB (hX.1 3 (by decide)) rfl rfl rfl (by (refine vp_in_iff.mpr ?_); (show 0 ≤ x2.toInt ∧ x2.toInt < ((64 : Nat) : Int)); (have kc_45 := ne_i c_45); (have lm1 := ln1); (have kt := isTarget_b c_1 hoc.2);  omega) d6_begin_156 (by exact gb hX (show x2.toNatClampNeg < 64 by (have kc_45 := ne_i c_45); (have lm1 := ln1); (have kt := isTarget_b c_1 hoc.2); (have cc9 := cl_i (x := x2) (by omega));  omega)) ?_
                    refine sr_get (v := .int (S 15 (x2.toNatClampNeg) 3)) hx hb hw hown hK hB 3 (hX.2.2.1 (x2.toNatClampNeg) (show x2.toNatClampNeg < 64 by (have kc_45 := ne_i c_45); (have lm1 := ln1); (have kt := isTarget_b c_1 hoc.2); (have cc9 := cl_i (x := x2) (by omega));  omega)).1 cf_15 us0 (by decide) fl_6_149 (rfl) d6_begin_157 ?_
                    refine lv_bipush (v := 6) hx hb d6_begin_160 (by decide) ?_
                    refine lv_icmp_lt (tgt := 168) hx hb d6_begin_162 (by decide) (fun c_48 => ?_) (fun c_48 => ?_)
                    · refine lv_aload_n hx hb d6_begin_168 rfl (lv_at hl 1 rfl) ?_
                      refine sr_get (v := .ref (ad 5 0)) hx hb hw hown hK hB 4 (hX.1 0 (by decide)) cf_0 us6 (by decide) fl_6_36 (rfl) d6_begin_169 ?_
                      refine lv_iload_n hx hb d6_begin_172 rfl (lv_at hl 2 rfl) ?_
                      refine lv_iload_n hx hb d6_begin_173 rfl (lv_at hl 0 rfl) ?_
                      refine lv_iload_n hx hb d6_begin_174 rfl (lv_at hl 2 rfl) ?_
                      refine lv_if_ne (tgt := 182) hx hb d6_begin_175 (by decide) (fun _ => ?_) (fun c => absurd c (by rw [c_3]; decide))
                      refine lv_iconst (v := (-1)) hx hb d6_begin_182 (by decide) ?_
                      refine lv_aload_n hx hb d6_begin_183 rfl (lv_at hl 1 rfl) ?_
                      refine sr_get (v := .int (S 0 0 8)) hx hb hw hown hK hB 8 (hX.1 0 (by decide)) cf_0 us6 (by decide) fl_6_54 (rfl) d6_begin_184 ?_
                      refine sr_vv C0 hB (m4_open hX x1 x2 (-1) (S 0 0 8) ) (hX.1 5 (by decide)) cf_5 ml_6_152 im_4_open se_4_open in_4 cd_4_open hd4_open ⟨⟨rfl, rfl⟩, by decide, by decide⟩ ⟨Nat.zero_le _, Nat.zero_le _⟩ hl.1 rfl (Nat.le_of_ble_eq_true rfl) d6_begin_187 (fun H locs hB => ?_)
                      exact k6_begin_190 C0 hB hX x1 x2 x2 (by first | exact isTarget_b c_1 hoc.2 | exact bt_64 (by assumption)) (lv_sub hl [1, 2, 3, 0] rfl) (by rw [if_neg c_1, if_neg c_2, if_pos c_3, if_neg c_32, if_pos c_33, if_neg c_34, if_neg c_42, if_neg c_45, if_neg c_46, if_pos c_48] at hO; exact hO)
                    · refine lv_bipush (v := (-8)) hx hb d6_begin_165 (by decide) ?_
                      exact se_i C0 hB (by rw [if_neg c_1, if_neg c_2, if_pos c_3, if_neg c_32, if_pos c_33, if_neg c_34, if_neg c_42, if_neg c_45, if_neg c_46, if_neg c_48] at hO; exact hO) d6_begin_167
                · refine lv_bipush (v := (-7)) hx hb d6_begin_130 (by decide) ?_
                  exact se_i C0 hB (by rw [if_neg c_1, if_neg c_2, if_pos c_3, if_neg c_32, if_pos c_33, if_neg c_34, if_neg c_42, if_pos c_45] at hO; exact hO) d6_begin_132
              · refine lv_bipush (v := (-5)) hx hb d6_begin_77 (by decide) ?_
                exact se_i C0 hB (by rw [if_neg c_1, if_neg c_2, if_pos c_3, if_neg c_32, if_pos c_33, if_neg c_34, if_pos c_42] at hO; exact hO) d6_begin_79
          · refine lv_bipush (v := (-4)) hx hb d6_begin_57 (by decide) ?_
            exact se_i C0 hB (by rw [if_neg c_1, if_neg c_2, if_pos c_3, if_neg c_32, if_neg c_33] at hO; exact hO) d6_begin_59
        · refine lv_goto (tgt := 44) hx hb d6_begin_34 (by decide) ?_
          refine lv_bipush (v := (-3)) hx hb d6_begin_44 (by decide) ?_
          exact se_i C0 hB (by rw [if_neg c_1, if_neg c_2, if_pos c_3, if_pos c_32] at hO; exact hO) d6_begin_46
    · refine lv_bipush (v := (-2)) hx hb d6_begin_19 (by decide) ?_
      exact se_i C0 hB (by rw [if_neg c_1, if_pos c_2] at hO; exact hO) d6_begin_21
  · refine lv_iconst (v := (-1)) hx hb d6_begin_9 (by decide) ?_
    exact se_i C0 hB (by rw [if_pos c_1] at hO; exact hO) d6_begin_10
theorem hd6_begin : y6_begin.cls = R6 ∧ y6_begin.cls ≠ "java/lang/invoke/MethodHandle" ∧ y6_begin.cls ≠ "java/lang/invoke/VarHandle" ∧ (parseMethodDescriptor y6_begin.desc).map (fun d => d.parameters.length) = some 2 := ⟨rfl, by decide, by decide, by decide +kernel⟩
theorem m6_begin {l : Launch} {D : va_G} {aC : Nat → ClassId} {ad : Nat → Nat → Nat} {X : Nat → Nat → Prop} {S A : sS} {G : sG} (hX : xC X G) (x1 : Int32) (x2 : Int32) (hlo : ∀ i, i < 64 → 0 ≤ (S 15 i 3).toInt ∧ (S 15 i 3).toInt ≤ 6) (hsz : 0 ≤ (S 6 0 1).toInt ∧ (S 6 0 1).toInt ≤ 300) (hoc : 0 ≤ (S 0 0 13).toInt ∧ (S 0 0 13).toInt ≤ 60) (hgo : ∀ i : Nat, (i : Int) < (S 0 0 13).toInt → ¬ G 4 i = none) : Met l y6_begin (.code y6_begin b6_begin 4 (some .int) :: wall) (rmk 3) (s_Pc [.ref (ad 0 0), .int x1, .int x2] D aC ad X S A G) (s_Qi D aC ad X G (O6_begin S A G x1 x2)) 0 0 (s_N ad X) :=
  s_met (by decide) rfl (Nat.le_of_ble_eq_true rfl) (fun p e s m args below meth c C0 hB ls hl => k6_begin_0 C0 hB hX x1 x2 hlo hsz hoc hgo hl rfl)
