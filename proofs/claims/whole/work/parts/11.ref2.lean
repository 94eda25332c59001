def V7_bookOf_4 (G : sG) (x1 : Int32) : Nat → sS → sS → Int32 → Nat → Int32
  | 0, S, A, _, _ => 0
  | r + 1, S, A, z2, j3 => if A 36 0 (x1.toNatClampNeg) ≤ nI j3 then z2 else V7_bookOf_4 G x1 r S A (z2 + (A 37 0 (6 * x1.toNatClampNeg + j3))) (j3 + 1)
def V7_bookOf (S A : sS) (G : sG) (x1 : Int32) : Int32 := V7_bookOf_4 G x1 7 S A 0 0
set_option maxRecDepth 100000 in
set_option maxHeartbeats 4000000 in
theorem k7_bookOf_4 {p : Program} {l : Launch} {e : Env} {s : State} {m : MethodId} {args : Array Value} {below : List Frame} {meth : Method} {c : Code} {D : va_G} {aC : Nat → ClassId} {ad : Nat → Nat → Nat} {X : Nat → Nat → Prop} {G : sG} {S A : sS} (C0 : s_C p s m args meth c b7_bookOf 4 R7 (some .int) D aC) (hB : s_B D aC ad X (s_N ad X) S A G s.heap s.heap []) (hX : xR X) (x1 : Int32) (hx1 : 0 ≤ x1.toInt ∧ x1.toInt < 64) (hlo : ∀ i, i < 64 → 0 ≤ (A 36 0 i).toInt ∧ (A 36 0 i).toInt ≤ 6) : ∀ (r : Nat) (z2 : Int32) (j3 : Nat) (hj : j3 ≤ 6) (hr3 : 6 < j3 + r) {ls : Array Slot} (hl : lv_has ls 4 [(0, .ref (ad 20 0)), (1, .int x1), (2, .int z2), (3, .int (nI j3))]) {o : Int32} (hO : V7_bookOf_4 G x1 r S A z2 j3 = o), W p l e (rmk 0) s m args below meth c s.heap [] 0 0 (MQ below (s_Qp o) args s 0 0 (fun _ => False)) (F0 m 4 ls []) := by
  obtain ⟨hx, hb, hml, hown, hw, hK, hr, hlocks⟩ := id C0
  intro r
  induction r with
  | zero =>
    intro z2 j3 hj hr3 ls hl o hO
    exact absurd hr3 (by omega)
  | succ r ih =>
    intro z2 j3 hj hr3 ls hl o hO
    rw [V7_bookOf_4] at hO
    refine lv_iload_n hx hb d7_bookOf_4 rfl (lv_at hl 3 rfl) ?_
    refine lv_aload_n hx hb d7_bookOf_5 rfl (lv_at hl 0 rfl) ?_
    refine sr_get (v := .ref (ad 36 0)) hx hb hw hown hK hB 15 (hX 20 (by decide)) cf_20 us7 (by decide) fl_7_48 (rfl) d7_bookOf_6 ?_
    refine lv_iload_n hx hb d7_bookOf_9 rfl (lv_at hl 1 rfl) ?_
    refine sr_iald (v := A 36 0 (x1.toNatClampNeg)) hx hb hK hB (hX 36 (by decide)) rfl rfl (by (refine vp_in_iff.mpr ?_); (show 0 ≤ x1.toInt ∧ x1.toInt < ((64 : Nat) : Int)); (have hL := at_i hlo hx1); (have aj3 := nI_toInt (n := j3) (by omega));  omega) d7_bookOf_10 (rfl) ?_
    refine lv_icmp_ge (tgt := 34) hx hb d7_bookOf_11 (by decide) (fun c_1 => ?_) (fun c_1 => ?_)
    · refine lv_iload_n hx hb d7_bookOf_34 rfl (lv_at hl 2 rfl) ?_
      exact se_pi C0 (by rw [if_pos c_1] at hO; exact hO) d7_bookOf_35
    · refine lv_iload_n hx hb d7_bookOf_14 rfl (lv_at hl 2 rfl) ?_
      refine lv_aload_n hx hb d7_bookOf_15 rfl (lv_at hl 0 rfl) ?_
      refine sr_get (v := .ref (ad 37 0)) hx hb hw hown hK hB 16 (hX 20 (by decide)) cf_20 us7 (by decide) fl_7_51 (rfl) d7_bookOf_16 ?_
      refine lv_bipush (v := 6) hx hb d7_bookOf_19 (by decide) ?_
      refine lv_iload_n hx hb d7_bookOf_21 rfl (lv_at hl 1 rfl) ?_
      refine lv_imul hx hb d7_bookOf_22 ?_
      refine lv_iload_n hx hb d7_bookOf_23 rfl (lv_at hl 3 rfl) ?_
      refine lv_iadd hx hb d7_bookOf_24 ?_
      refine sr_iald (v := A 37 0 (6 * x1.toNatClampNeg + j3)) hx hb hK hB (hX 37 (by decide)) rfl rfl (by (have hL := at_i hlo hx1); (have aj3 := nI_toInt (n := j3) (by omega)); (have kc_1 := nle_i c_1); (have l0 : (0 : Int32).toInt = 0 := rfl); (have l36 : (36 : Int32).toInt = 36 := rfl);  exact ix6_in (x := x1) (j := j3) (by omega) (by omega) (by omega) (show _ < ((384 : Nat) : Int) by omega)) d7_bookOf_25 (by (have hL := at_i hlo hx1); (have aj3 := nI_toInt (n := j3) (by omega)); (have kc_1 := nle_i c_1); (have l0 : (0 : Int32).toInt = 0 := rfl); (have l36 : (36 : Int32).toInt = 36 := rfl);  exact Eq.trans (congrArg (fun q => A 37 0 q) (ix6 (x := x1) (j := j3) (by omega) (by omega) (by omega))) rfl) ?_
      refine lv_iadd hx hb d7_bookOf_26 ?_
      refine lv_istore_n (lv' := [(2, .int (z2 + (A 37 0 (6 * x1.toNatClampNeg + j3)))), (0, .ref (ad 20 0)), (1, .int x1), (3, .int (nI j3))]) hx hb d7_bookOf_27 rfl hl (by decide) rfl (fun ls hl => ?_)
      refine lv_iinc (v := nI (j3 + 1)) (lv' := [(3, .int (nI (j3 + 1))), (2, .int (z2 + (A 37 0 (6 * x1.toNatClampNeg + j3)))), (0, .ref (ad 20 0)), (1, .int x1)]) hx hb d7_bookOf_28 hl (k := 3) rfl (nI_1 j3) (by decide) rfl (fun ls hl => ?_)
      refine lv_goto (tgt := 4) hx hb d7_bookOf_31 (by decide) ?_
      exact ih (z2 + (A 37 0 (6 * x1.toNatClampNeg + j3))) (j3 + 1) (by (have hL := at_i hlo hx1); (have aj3 := nI_toInt (n := j3) (by omega)); (have kc_1 := nle_i c_1); (have l0 : (0 : Int32).toInt = 0 := rfl); (have l36 : (36 : Int32).toInt = 36 := rfl);  omega) (by (have hL := at_i hlo hx1); (have aj3 := nI_toInt (n := j3) (by omega)); (have kc_1 := nle_i c_1); (have l0 : (0 : Int32).toInt = 0 := rfl); (have l36 : (36 : Int32).toInt = 36 := rfl);  omega) (lv_sub hl [2, 3, 1, 0] rfl) (by rw [if_neg c_1] at hO; exact hO)
set_option maxRecDepth 100000 in
set_option maxHeartbeats 4000000 in
theorem k7_bookOf_0 {p : Program} {l : Launch} {e : Env} {s : State} {m : MethodId} {args : Array Value} {below : List Frame} {meth : Method} {c : Code} {D : va_G} {aC : Nat → ClassId} {ad : Nat → Nat → Nat} {X : Nat → Nat → Prop} {S A : sS} {G : sG} (C0 : s_C p s m args meth c b7_bookOf 4 R7 (some .int) D aC) (hB : s_B D aC ad X (s_N ad X) S A G s.heap s.heap []) (hX : xR X) (x1 : Int32) (hx1 : 0 ≤ x1.toInt ∧ x1.toInt < 64) (hlo : ∀ i, i < 64 → 0 ≤ (A 36 0 i).toInt ∧ (A 36 0 i).toInt ≤ 6) {ls : Array Slot} (hl : lv_has ls 4 [(0, .ref (ad 20 0)), (1, .int x1)]) {o : Int32} (hO : V7_bookOf S A G x1 = o) : W p l e (rmk 0) s m args below meth c s.heap [] 0 0 (MQ below (s_Qp o) args s 0 0 (fun _ => False)) (F0 m 0 ls []) := by
  obtain ⟨hx, hb, hml, hown, hw, hK, hr, hlocks⟩ := id C0
  unfold V7_bookOf at hO
  refine lv_iconst (v := 0) hx hb d7_bookOf_0 (by decide) ?_
  refine lv_istore_n (lv' := [(2, .int 0), (0, .ref (ad 20 0)), (1, .int x1)]) hx hb d7_bookOf_1 rfl hl (by decide) rfl (fun ls hl => ?_)
  refine lv_iconst (v := 0) hx hb d7_bookOf_2 (by decide) ?_
  refine lv_istore_n (lv' := [(3, .int 0), (2, .int 0), (0, .ref (ad 20 0)), (1, .int x1)]) hx hb d7_bookOf_3 rfl hl (by decide) rfl (fun ls hl => ?_)
  exact k7_bookOf_4 C0 hB hX x1 hx1 hlo 7 0 0 (by (have hL := at_i hlo hx1);  omega) (by (have hL := at_i hlo hx1);  omega) (lv_sub hl [2, 3, 1, 0] rfl) (hO)
theorem hd7_bookOf : y7_bookOf.cls = R7 ∧ y7_bookOf.cls ≠ "java/lang/invoke/MethodHandle" ∧ y7_bookOf.cls ≠ "java/lang/invoke/VarHandle" ∧ (parseMethodDescriptor y7_bookOf.desc).map (fun d => d.parameters.length) = some 1 := ⟨rfl, by decide, by decide, by decide +kernel⟩
theorem m7_bookOf {l : Launch} {D : va_G} {aC : Nat → ClassId} {ad : Nat → Nat → Nat} {X : Nat → Nat → Prop} {S A : sS} {G : sG} (hX : xR X) (x1 : Int32) (hx1 : 0 ≤ x1.toInt ∧ x1.toInt < 64) (hlo : ∀ i, i < 64 → 0 ≤ (A 36 0 i).toInt ∧ (A 36 0 i).toInt ≤ 6) : Met l y7_bookOf (.code y7_bookOf b7_bookOf 4 (some .int) :: wall) (rmk 0) (s_Pc [.ref (ad 20 0), .int x1] D aC ad X S A G) (s_Qp (V7_bookOf S A G x1)) 0 0 (fun _ => False) :=
  s_met (by decide) rfl (Nat.le_of_ble_eq_true rfl) (fun p e s m args below meth c C0 hB ls hl => k7_bookOf_0 C0 hB hX x1 hx1 hlo hl rfl)

def V7_givableOf_4 (G : sG) (x1 : Int32) : Nat → sS → sS → Int32 → Nat → Int32
  | 0, S, A, _, _ => 0
  | r + 1, S, A, z2, j3 => if A 36 0 (x1.toNatClampNeg) ≤ nI j3 then z2 else if A 38 0 (6 * x1.toNatClampNeg + j3) ≤ S 20 0 0 then V7_givableOf_4 G x1 r S A (z2 + 0) (j3 + 1) else V7_givableOf_4 G x1 r S A (z2 + (A 37 0 (6 * x1.toNatClampNeg + j3))) (j3 + 1)
def V7_givableOf (S A : sS) (G : sG) (x1 : Int32) : Int32 := V7_givableOf_4 G x1 7 S A 0 0
set_option maxRecDepth 100000 in
set_option maxHeartbeats 4000000 in
theorem k7_givableOf_4 {p : Program} {l : Launch} {e : Env} {s : State} {m : MethodId} {args : Array Value} {below : List Frame} {meth : Method} {c : Code} {D : va_G} {aC : Nat → ClassId} {ad : Nat → Nat → Nat} {X : Nat → Nat → Prop} {G : sG} {S A : sS} (C0 : s_C p s m args meth c b7_givableOf 4 R7 (some .int) D aC) (hB : s_B D aC ad X (s_N ad X) S A G s.heap s.heap []) (hX : xR X) (x1 : Int32) (hx1 : 0 ≤ x1.toInt ∧ x1.toInt < 64) (hlo : ∀ i, i < 64 → 0 ≤ (A 36 0 i).toInt ∧ (A 36 0 i).toInt ≤ 6) : ∀ (r : Nat) (z2 : Int32) (j3 : Nat) (hj : j3 ≤ 6) (hr3 : 6 < j3 + r) {ls : Array Slot} (hl : lv_has ls 4 [(0, .ref (ad 20 0)), (1, .int x1), (2, .int z2), (3, .int (nI j3))]) {o : Int32} (hO : V7_givableOf_4 G x1 r S A z2 j3 = o), W p l e (rmk 0) s m args below meth c s.heap [] 0 0 (MQ below (s_Qp o) args s 0 0 (fun _ => False)) (F0 m 4 ls []) := by
  obtain ⟨hx, hb, hml, hown, hw, hK, hr, hlocks⟩ := id C0
  intro r
  induction r with
  | zero =>
    intro z2 j3 hj hr3 ls hl o hO
    exact absurd hr3 (by omega)
  | succ r ih =>
    intro z2 j3 hj hr3 ls hl o hO
    rw [V7_givableOf_4] at hO
    refine lv_iload_n hx hb d7_givableOf_4 rfl (lv_at hl 3 rfl) ?_
    refine lv_aload_n hx hb d7_givableOf_5 rfl (lv_at hl 0 rfl) ?_
    refine sr_get (v := .ref (ad 36 0)) hx hb hw hown hK hB 15 (hX 20 (by decide)) cf_20 us7 (by decide) fl_7_48 (rfl) d7_givableOf_6 ?_
    refine lv_iload_n hx hb d7_givableOf_9 rfl (lv_at hl 1 rfl) ?_
    refine sr_iald (v := A 36 0 (x1.toNatClampNeg)) hx hb hK hB (hX 36 (by decide)) rfl rfl (by (refine vp_in_iff.mpr ?_); (show 0 ≤ x1.toInt ∧ x1.toInt < ((64 : Nat) : Int)); (have hL := at_i hlo hx1); (have aj3 := nI_toInt (n := j3) (by omega));  omega) d7_givableOf_10 (rfl) ?_
    refine lv_icmp_ge (tgt := 56) hx hb d7_givableOf_11 (by decide) (fun c_1 => ?_) (fun c_1 => ?_)
    · refine lv_iload_n hx hb d7_givableOf_56 rfl (lv_at hl 2 rfl) ?_
      exact se_pi C0 (by rw [if_pos c_1] at hO; exact hO) d7_givableOf_57
    · refine lv_iload_n hx hb d7_givableOf_14 rfl (lv_at hl 2 rfl) ?_
      refine lv_aload_n hx hb d7_givableOf_15 rfl (lv_at hl 0 rfl) ?_
      refine sr_get (v := .ref (ad 38 0)) hx hb hw hown hK hB 17 (hX 20 (by decide)) cf_20 us7 (by decide) fl_7_54 (rfl) d7_givableOf_16 ?_
      refine lv_bipush (v := 6) hx hb d7_givableOf_19 (by decide) ?_
      refine lv_iload_n hx hb d7_givableOf_21 rfl (lv_at hl 1 rfl) ?_
      refine lv_imul hx hb d7_givableOf_22 ?_
      refine lv_iload_n hx hb d7_givableOf_23 rfl (lv_at hl 3 rfl) ?_
      refine lv_iadd hx hb d7_givableOf_24 ?_
      refine sr_iald (v := A 38 0 (6 * x1.toNatClampNeg + j3)) hx hb hK hB (hX 38 (by decide)) rfl rfl (by (have hL := at_i hlo hx1); (have aj3 := nI_toInt (n := j3) (by omega)); (have kc_1 := nle_i c_1); (have l0 : (0 : Int32).toInt = 0 := rfl); (have l36 : (36 : Int32).toInt = 36 := rfl);  exact ix6_in (x := x1) (j := j3) (by omega) (by omega) (by omega) (show _ < ((384 : Nat) : Int) by omega)) d7_givableOf_25 (by (have hL := at_i hlo hx1); (have aj3 := nI_toInt (n := j3) (by omega)); (have kc_1 := nle_i c_1); (have l0 : (0 : Int32).toInt = 0 := rfl); (have l36 : (36 : Int32).toInt = 36 := rfl);  exact Eq.trans (congrArg (fun q => A 38 0 q) (ix6 (x := x1) (j := j3) (by omega) (by omega) (by omega))) rfl) ?_
      refine lv_aload_n hx hb d7_givableOf_26 rfl (lv_at hl 0 rfl) ?_
      refine sr_get (v := .int (S 20 0 0)) hx hb hw hown hK hB 0 (hX 20 (by decide)) cf_20 us7 (by decide) fl_7_100 (rfl) d7_givableOf_27 ?_
      refine lv_icmp_le (tgt := 47) hx hb d7_givableOf_30 (by decide) (fun c_2 => ?_) (fun c_2 => ?_)
      · refine lv_iconst (v := 0) hx hb d7_givableOf_47 (by decide) ?_
        refine lv_iadd hx hb d7_givableOf_48 ?_
        refine lv_istore_n (lv' := [(2, .int (z2 + 0)), (0, .ref (ad 20 0)), (1, .int x1), (3, .int (nI j3))]) hx hb d7_givableOf_49 rfl hl (by decide) rfl (fun ls hl => ?_)
        refine lv_iinc (v := nI (j3 + 1)) (lv' := [(3, .int (nI (j3 + 1))), (2, .int (z2 + 0)), (0, .ref (ad 20 0)), (1, .int x1)]) hx hb d7_givableOf_50 hl (k := 3) rfl (nI_1 j3) (by decide) rfl (fun ls hl => ?_)
        refine lv_goto (tgt := 4) hx hb d7_givableOf_53 (by decide) ?_
        exact ih (z2 + 0) (j3 + 1) (by (have hL := at_i hlo hx1); (have aj3 := nI_toInt (n := j3) (by omega)); (have kc_1 := nle_i c_1); (have l0 : (0 : Int32).toInt = 0 := rfl); (have l36 : (36 : Int32).toInt = 36 := rfl);  omega) (by (have hL := at_i hlo hx1); (have aj3 := nI_toInt (n := j3) (by omega)); (have kc_1 := nle_i c_1); (have l0 : (0 : Int32).toInt = 0 := rfl); (have l36 : (36 : Int32).toInt = 36 := rfl);  omega) (lv_sub hl [2, 3, 1, 0] rfl) (by rw [if_neg c_1, if_pos c_2] at hO; exact hO)
      · refine lv_aload_n hx hb d7_givableOf_33 rfl (lv_at hl 0 rfl) ?_
        refine sr_get (v := .ref (ad 37 0)) hx hb hw hown hK hB 16 (hX 20 (by decide)) cf_20 us7 (by decide) fl_7_51 (rfl) d7_givableOf_34 ?_
        refine lv_bipush (v := 6) hx hb d7_givableOf_37 (by decide) ?_
        refine lv_iload_n hx hb d7_givableOf_39 rfl (lv_at hl 1 rfl) ?_
        refine lv_imul hx hb d7_givableOf_40 ?_
        refine lv_iload_n hx hb d7_givableOf_41 rfl (lv_at hl 3 rfl) ?_
        refine lv_iadd hx hb d7_givableOf_42 ?_
        refine sr_iald (v := A 37 0 (6 * x1.toNatClampNeg + j3)) hx hb hK hB (hX 37 (by decide)) rfl rfl (by (have hL := at_i hlo hx1); (have aj3 := nI_toInt (n := j3) (by omega)); (have kc_1 := nle_i c_1); (have l0 : (0 : Int32).toInt = 0 := rfl); (have l36 : (36 : Int32).toInt = 36 := rfl);  exact ix6_in (x := x1) (j := j3) (by omega) (by omega) (by omega) (show _ < ((384 : Nat) : Int) by omega)) d7_givableOf_43 (by (have hL := at_i hlo hx1); (have aj3 := nI_toInt (n := j3) (by omega)); (have kc_1 := nle_i c_1); (have l0 : (0 : Int32).toInt = 0 := rfl); (have l36 : (36 : Int32).toInt = 36 := rfl);  exact Eq.trans (congrArg (fun q => A 37 0 q) (ix6 (x := x1) (j := j3) (by omega) (by omega) (by omega))) rfl) ?_
        refine lv_goto (tgt := 48) hx hb d7_givableOf_44 (by decide) ?_
        refine lv_iadd hx hb d7_givableOf_48 ?_
        refine lv_istore_n (lv' := [(2, .int (z2 + (A 37 0 (6 * x1.toNatClampNeg + j3)))), (0, .ref (ad 20 0)), (1, .int x1), (3, .int (nI j3))]) hx hb d7_givableOf_49 rfl hl (by decide) rfl (fun ls hl => ?_)
        refine lv_iinc (v := nI (j3 + 1)) (lv' := [(3, .int (nI (j3 + 1))), (2, .int (z2 + (A 37 0 (6 * x1.toNatClampNeg + j3)))), (0, .ref (ad 20 0)), (1, .int x1)]) hx hb d7_givableOf_50 hl (k := 3) rfl (nI_1 j3) (by decide) rfl (fun ls hl => ?_)
        refine lv_goto (tgt := 4) hx hb d7_givableOf_53 (by decide) ?_
        exact ih (z2 + (A 37 0 (6 * x1.toNatClampNeg + j3))) (j3 + 1) (by (have hL := at_i hlo hx1); (have aj3 := nI_toInt (n := j3) (by omega)); (have kc_1 := nle_i c_1); (have l0 : (0 : Int32).toInt = 0 := rfl); (have l36 : (36 : Int32).toInt = 36 := rfl);  omega) (by (have hL := at_i hlo hx1); (have aj3 := nI_toInt (n := j3) (by omega)); (have kc_1 := nle_i c_1); (have l0 : (0 : Int32).toInt = 0 := rfl); (have l36 : (36 : Int32).toInt = 36 := rfl);  omega) (lv_sub hl [2, 3, 1, 0] rfl) (by rw [if_neg c_1, if_neg c_2] at hO; exact hO)
set_option maxRecDepth 100000 in
set_option maxHeartbeats 4000000 in
theorem k7_givableOf_0 {p : Program} {l : Launch} {e : Env} {s : State} {m : MethodId} {args : Array Value} {below : List Frame} {meth : Method} {c : Code} {D : va_G} {aC : Nat → ClassId} {ad : Nat → Nat → Nat} {X : Nat → Nat → Prop} {S A : sS} {G : sG} (C0 : s_C p s m args meth c b7_givableOf 4 R7 (some .int) D aC) (hB : s_B D aC ad X (s_N ad X) S A G s.heap s.heap []) (hX : xR X) (x1 : Int32) (hx1 : 0 ≤ x1.toInt ∧ x1.toInt < 64) (hlo : ∀ i, i < 64 → 0 ≤ (A 36 0 i).toInt ∧ (A 36 0 i).toInt ≤ 6) {ls : Array Slot} (hl : lv_has ls 4 [(0, .ref (ad 20 0)), (1, .int x1)]) {o : Int32} (hO : V7_givableOf S A G x1 = o) : W p l e (rmk 0) s m args below meth c s.heap [] 0 0 (MQ below (s_Qp o) args s 0 0 (fun _ => False)) (F0 m 0 ls []) := by
  obtain ⟨hx, hb, hml, hown, hw, hK, hr, hlocks⟩ := id C0
  unfold V7_givableOf at hO
  refine lv_iconst (v := 0) hx hb d7_givableOf_0 (by decide) ?_
  refine lv_istore_n (lv' := [(2, .int 0), (0, .ref (ad 20 0)), (1, .int x1)]) hx hb d7_givableOf_1 rfl hl (by decide) rfl (fun ls hl => ?_)
  refine lv_iconst (v := 0) hx hb d7_givableOf_2 (by decide) ?_
  refine lv_istore_n (lv' := [(3, .int 0), (2, .int 0), (0, .ref (ad 20 0)), (1, .int x1)]) hx hb d7_givableOf_3 rfl hl (by decide) rfl (fun ls hl => ?_)
  exact k7_givableOf_4 C0 hB hX x1 hx1 hlo 7 0 0 (by (have hL := at_i hlo hx1);  omega) (by (have hL := at_i hlo hx1);  omega) (lv_sub hl [2, 3, 1, 0] rfl) (hO)
theorem hd7_givableOf : y7_givableOf.cls = R7 ∧ y7_givableOf.cls ≠ "java/lang/invoke/MethodHandle" ∧ y7_givableOf.cls ≠ "java/lang/invoke/VarHandle" ∧ (parseMethodDescriptor y7_givableOf.desc).map (fun d => d.parameters.length) = some 1 := ⟨rfl, by decide, by decide, by decide +kernel⟩
theorem m7_givableOf {l : Launch} {D : va_G} {aC : Nat → ClassId} {ad : Nat → Nat → Nat} {X : Nat → Nat → Prop} {S A : sS} {G : sG} (hX : xR X) (x1 : Int32) (hx1 : 0 ≤ x1.toInt ∧ x1.toInt < 64) (hlo : ∀ i, i < 64 → 0 ≤ (A 36 0 i).toInt ∧ (A 36 0 i).toInt ≤ 6) : Met l y7_givableOf (.code y7_givableOf b7_givableOf 4 (some .int) :: wall) (rmk 0) (s_Pc [.ref (ad 20 0), .int x1] D aC ad X S A G) (s_Qp (V7_givableOf S A G x1)) 0 0 (fun _ => False) :=
  s_met (by decide) rfl (Nat.le_of_ble_eq_true rfl) (fun p e s m args below meth c C0 hB ls hl => k7_givableOf_0 C0 hB hX x1 hx1 hlo hl rfl)

def V7_firstOf_11 (G : sG) (x1 : Int32) : Nat → sS → sS → Int32 → Int32 → Int32
  | 0, S, A, _, _ => 0
  | r + 1, S, A, z2, z3 => if z3 < 0 then z2 else if A 38 0 (((6 * x1) + z3).toNatClampNeg) ≤ S 20 0 0 then V7_firstOf_11 G x1 r S A z2 (z3 + (-1)) else V7_firstOf_11 G x1 r S A (A 38 0 (((6 * x1) + z3).toNatClampNeg)) (z3 + (-1))
def V7_firstOf (S A : sS) (G : sG) (x1 : Int32) : Int32 := V7_firstOf_11 G x1 7 S A 0 ((A 36 0 (x1.toNatClampNeg)) - 1)
set_option maxRecDepth 100000 in
set_option maxHeartbeats 4000000 in
theorem k7_firstOf_11 {p : Program} {l : Launch} {e : Env} {s : State} {m : MethodId} {args : Array Value} {below : List Frame} {meth : Method} {c : Code} {D : va_G} {aC : Nat → ClassId} {ad : Nat → Nat → Nat} {X : Nat → Nat → Prop} {G : sG} {S A : sS} (C0 : s_C p s m args meth c b7_firstOf 4 R7 (some .int) D aC) (hB : s_B D aC ad X (s_N ad X) S A G s.heap s.heap []) (hX : xR X) (x1 : Int32) (hx1 : 0 ≤ x1.toInt ∧ x1.toInt < 64) (hlo : ∀ i, i < 64 → 0 ≤ (A 36 0 i).toInt ∧ (A 36 0 i).toInt ≤ 6) : ∀ (r : Nat) (z2 : Int32) (z3 : Int32) (hz : -1 ≤ z3.toInt ∧ z3.toInt < 6) (hr3 : z3.toInt + 1 < (r : Int)) {ls : Array Slot} (hl : lv_has ls 4 [(0, .ref (ad 20 0)), (1, .int x1), (2, .int z2), (3, .int z3)]) {o : Int32} (hO : V7_firstOf_11 G x1 r S A z2 z3 = o), W p l e (rmk 0) s m args below meth c s.heap [] 0 0 (MQ below (s_Qp o) args s 0 0 (fun _ => False)) (F0 m 11 ls []) := by
  obtain ⟨hx, hb, hml, hown, hw, hK, hr, hlocks⟩ := id C0
  intro r
  induction r with
  | zero =>
    intro z2 z3 hz hr3 ls hl o hO
    exact absurd hr3 (by omega)
  | succ r ih =>
    intro z2 z3 hz hr3 ls hl o hO
    rw [V7_firstOf_11] at hO
    refine lv_iload_n hx hb d7_firstOf_11 rfl (lv_at hl 3 rfl) ?_
    refine lv_if_lt (tgt := 55) hx hb d7_firstOf_12 (by decide) (fun c_1 => ?_) (fun c_1 => ?_)
    · refine lv_iload_n hx hb d7_firstOf_55 rfl (lv_at hl 2 rfl) ?_
      exact se_pi C0 (by rw [if_pos c_1] at hO; exact hO) d7_firstOf_56
    · refine lv_aload_n hx hb d7_firstOf_15 rfl (lv_at hl 0 rfl) ?_
      refine sr_get (v := .ref (ad 38 0)) hx hb hw hown hK hB 17 (hX 20 (by decide)) cf_20 us7 (by decide) fl_7_54 (rfl) d7_firstOf_16 ?_
      refine lv_bipush (v := 6) hx hb d7_firstOf_19 (by decide) ?_
      refine lv_iload_n hx hb d7_firstOf_21 rfl (lv_at hl 1 rfl) ?_
      refine lv_imul hx hb d7_firstOf_22 ?_
      refine lv_iload_n hx hb d7_firstOf_23 rfl (lv_at hl 3 rfl) ?_
      refine lv_iadd hx hb d7_firstOf_24 ?_
      refine sr_iald (v := A 38 0 (((6 * x1) + z3).toNatClampNeg)) hx hb hK hB (hX 38 (by decide)) rfl rfl (by (refine vp_in_iff.mpr ?_); (show 0 ≤ ((6 * x1) + z3).toInt ∧ ((6 * x1) + z3).toInt < ((384 : Nat) : Int)); (have hL := at_i hlo hx1); (have b0 := sub1_i (x := A 36 0 x1.toNatClampNeg) (by omega)); (have b1 := mul6_i (x := x1) (by omega) (by omega)); (have b2 := add_i (x := 6 * x1) (y := z3) (by omega) (by omega)); (have kc_1 := nlt_i c_1); (have l0 : (0 : Int32).toInt = 0 := rfl);  omega) d7_firstOf_25 (rfl) ?_
      refine lv_aload_n hx hb d7_firstOf_26 rfl (lv_at hl 0 rfl) ?_
      refine sr_get (v := .int (S 20 0 0)) hx hb hw hown hK hB 0 (hX 20 (by decide)) cf_20 us7 (by decide) fl_7_100 (rfl) d7_firstOf_27 ?_
      refine lv_icmp_le (tgt := 47) hx hb d7_firstOf_30 (by decide) (fun c_2 => ?_) (fun c_2 => ?_)
      · refine lv_iload_n hx hb d7_firstOf_47 rfl (lv_at hl 2 rfl) ?_
        refine lv_istore_n (lv' := [(2, .int z2), (0, .ref (ad 20 0)), (1, .int x1), (3, .int z3)]) hx hb d7_firstOf_48 rfl hl (by decide) rfl (fun ls hl => ?_)
        refine lv_iinc (v := z3 + (-1)) (lv' := [(3, .int (z3 + (-1))), (2, .int z2), (0, .ref (ad 20 0)), (1, .int x1)]) hx hb d7_firstOf_49 hl (k := 3) rfl (by rw [ofm1]) (by decide) rfl (fun ls hl => ?_)
        refine lv_goto (tgt := 11) hx hb d7_firstOf_52 (by decide) ?_
        exact ih z2 (z3 + (-1)) (by (have kc_1 := nlt_i c_1); (have l0 : (0 : Int32).toInt = 0 := rfl); (have b3 := dec_i (x := z3) (by omega)); omega) (by (have kc_1 := nlt_i c_1); (have l0 : (0 : Int32).toInt = 0 := rfl); (have b3 := dec_i (x := z3) (by omega)); omega) (lv_sub hl [2, 3, 1, 0] rfl) (by rw [if_neg c_1, if_pos c_2] at hO; exact hO)
      · refine lv_aload_n hx hb d7_firstOf_33 rfl (lv_at hl 0 rfl) ?_
        refine sr_get (v := .ref (ad 38 0)) hx hb hw hown hK hB 17 (hX 20 (by decide)) cf_20 us7 (by decide) fl_7_54 (rfl) d7_firstOf_34 ?_
        refine lv_bipush (v := 6) hx hb d7_firstOf_37 (by decide) ?_
        refine lv_iload_n hx hb d7_firstOf_39 rfl (lv_at hl 1 rfl) ?_
        refine lv_imul hx hb d7_firstOf_40 ?_
        refine lv_iload_n hx hb d7_firstOf_41 rfl (lv_at hl 3 rfl) ?_
        refine lv_iadd hx hb d7_firstOf_42 ?_
        refine sr_iald (v := A 38 0 (((6 * x1) + z3).toNatClampNeg)) hx hb hK hB (hX 38 (by decide)) rfl rfl (by (refine vp_in_iff.mpr ?_); (show 0 ≤ ((6 * x1) + z3).toInt ∧ ((6 * x1) + z3).toInt < ((384 : Nat) : Int)); (have hL := at_i hlo hx1); (have b0 := sub1_i (x := A 36 0 x1.toNatClampNeg) (by omega)); (have b1 := mul6_i (x := x1) (by omega) (by omega)); (have b2 := add_i (x := 6 * x1) (y := z3) (by omega) (by omega)); (have kc_1 := nlt_i c_1); (have l0 : (0 : Int32).toInt = 0 := rfl);  omega) d7_firstOf_43 (rfl) ?_
        refine lv_goto (tgt := 48) hx hb d7_firstOf_44 (by decide) ?_
        refine lv_istore_n (lv' := [(2, .int (A 38 0 (((6 * x1) + z3).toNatClampNeg))), (0, .ref (ad 20 0)), (1, .int x1), (3, .int z3)]) hx hb d7_firstOf_48 rfl hl (by decide) rfl (fun ls hl => ?_)
        refine lv_iinc (v := z3 + (-1)) (lv' := [(3, .int (z3 + (-1))), (2, .int (A 38 0 (((6 * x1) + z3).toNatClampNeg))), (0, .ref (ad 20 0)), (1, .int x1)]) hx hb d7_firstOf_49 hl (k := 3) rfl (by rw [ofm1]) (by decide) rfl (fun ls hl => ?_)
        refine lv_goto (tgt := 11) hx hb d7_firstOf_52 (by decide) ?_
        exact ih (A 38 0 (((6 * x1) + z3).toNatClampNeg)) (z3 + (-1)) (by (have kc_1 := nlt_i c_1); (have l0 : (0 : Int32).toInt = 0 := rfl); (have b3 := dec_i (x := z3) (by omega)); omega) (by (have kc_1 := nlt_i c_1); (have l0 : (0 : Int32).toInt = 0 := rfl); (have b3 := dec_i (x := z3) (by omega)); omega) (lv_sub hl [2, 3, 1, 0] rfl) (by rw [if_neg c_1, if_neg c_2] at hO; exact hO)
set_option maxRecDepth 100000 in
set_option maxHeartbeats 4000000 in
theorem k7_firstOf_0 {p : Program} {l : Launch} {e : Env} {s : State} {m : MethodId} {args : Array Value} {below : List Frame} {meth : Method} {c : Code} {D : va_G} {aC : Nat → ClassId} {ad : Nat → Nat → Nat} {X : Nat → Nat → Prop} {S A : sS} {G : sG} (C0 : s_C p s m args meth c b7_firstOf 4 R7 (some .int) D aC) (hB : s_B D aC ad X (s_N ad X) S A G s.heap s.heap []) (hX : xR X) (x1 : Int32) (hx1 : 0 ≤ x1.toInt ∧ x1.toInt < 64) (hlo : ∀ i, i < 64 → 0 ≤ (A 36 0 i).toInt ∧ (A 36 0 i).toInt ≤ 6) {ls : Array Slot} (hl : lv_has ls 4 [(0, .ref (ad 20 0)), (1, .int x1)]) {o : Int32} (hO : V7_firstOf S A G x1 = o) : W p l e (rmk 0) s m args below meth c s.heap [] 0 0 (MQ below (s_Qp o) args s 0 0 (fun _ => False)) (F0 m 0 ls []) := by
  obtain ⟨hx, hb, hml, hown, hw, hK, hr, hlocks⟩ := id C0
  unfold V7_firstOf at hO
  refine lv_iconst (v := 0) hx hb d7_firstOf_0 (by decide) ?_
  refine lv_istore_n (lv' := [(2, .int 0), (0, .ref (ad 20 0)), (1, .int x1)]) hx hb d7_firstOf_1 rfl hl (by decide) rfl (fun ls hl => ?_)
  refine lv_aload_n hx hb d7_firstOf_2 rfl (lv_at hl 1 rfl) ?_
  refine sr_get (v := .ref (ad 36 0)) hx hb hw hown hK hB 15 (hX 20 (by decide)) cf_20 us7 (by decide) fl_7_48 (rfl) d7_firstOf_3 ?_
  refine lv_iload_n hx hb d7_firstOf_6 rfl (lv_at hl 2 rfl) ?_
  refine sr_iald (v := A 36 0 (x1.toNatClampNeg)) hx hb hK hB (hX 36 (by decide)) rfl rfl (by (refine vp_in_iff.mpr ?_); (show 0 ≤ x1.toInt ∧ x1.toInt < ((64 : Nat) : Int)); (have hL := at_i hlo hx1); (have b0 := sub1_i (x := A 36 0 x1.toNatClampNeg) (by omega)); (have b1 := mul6_i (x := x1) (by omega) (by omega));  omega) d7_firstOf_7 (rfl) ?_
  refine lv_iconst (v := 1) hx hb d7_firstOf_8 (by decide) ?_
  refine lv_isub hx hb d7_firstOf_9 ?_
  refine lv_istore_n (lv' := [(3, .int ((A 36 0 (x1.toNatClampNeg)) - 1)), (2, .int 0), (0, .ref (ad 20 0)), (1, .int x1)]) hx hb d7_firstOf_10 rfl hl (by decide) rfl (fun ls hl => ?_)
  exact k7_firstOf_11 C0 hB hX x1 hx1 hlo 7 0 ((A 36 0 (x1.toNatClampNeg)) - 1) (by (have hL := at_i hlo hx1); (have b0 := sub1_i (x := A 36 0 x1.toNatClampNeg) (by omega)); (have b1 := mul6_i (x := x1) (by omega) (by omega));  omega) (by (have hL := at_i hlo hx1); (have b0 := sub1_i (x := A 36 0 x1.toNatClampNeg) (by omega)); (have b1 := mul6_i (x := x1) (by omega) (by omega));  omega) (lv_sub hl [2, 3, 1, 0] rfl) (hO)
theorem hd7_firstOf : y7_firstOf.cls = R7 ∧ y7_firstOf.cls ≠ "java/lang/invoke/MethodHandle" ∧ y7_firstOf.cls ≠ "java/lang/invoke/VarHandle" ∧ (parseMethodDescriptor y7_firstOf.desc).map (fun d => d.parameters.length) = some 1 := ⟨rfl, by decide, by decide, by decide +kernel⟩
theorem m7_firstOf {l : Launch} {D : va_G} {aC : Nat → ClassId} {ad : Nat → Nat → Nat} {X : Nat → Nat → Prop} {S A : sS} {G : sG} (hX : xR X) (x1 : Int32) (hx1 : 0 ≤ x1.toInt ∧ x1.toInt < 64) (hlo : ∀ i, i < 64 → 0 ≤ (A 36 0 i).toInt ∧ (A 36 0 i).toInt ≤ 6) : Met l y7_firstOf (.code y7_firstOf b7_firstOf 4 (some .int) :: wall) (rmk 0) (s_Pc [.ref (ad 20 0), .int x1] D aC ad X S A G) (s_Qp (V7_firstOf S A G x1)) 0 0 (fun _ => False) :=
  s_met (by decide) rfl (Nat.le_of_ble_eq_true rfl) (fun p e s m args below meth c C0 hB ls hl => k7_firstOf_0 C0 hB hX x1 hx1 hlo hl rfl)

def O7_putLot_8 (G : sG) (x1 : Int32) (x2 : Int32) (x3 : Int32) : Nat → sS → sS → Nat → sS × sS
  | 0, S, A, _ => (S, A)
  | r + 1, S, A, j4 => if nI j4 ≤ 0 then (S, (up3 (up3 (up3 A 37 0 (6 * x1.toNatClampNeg + j4) x3) 38 0 (6 * x1.toNatClampNeg + j4) x2) 36 0 (x1.toNatClampNeg) ((A 36 0 (x1.toNatClampNeg)) + 1))) else if A 38 0 (6 * x1.toNatClampNeg + (j4 - 1)) ≤ x2 then (S, (up3 (up3 (up3 A 37 0 (6 * x1.toNatClampNeg + j4) x3) 38 0 (6 * x1.toNatClampNeg + j4) x2) 36 0 (x1.toNatClampNeg) ((A 36 0 (x1.toNatClampNeg)) + 1))) else O7_putLot_8 G x1 x2 x3 r S (up3 (up3 A 37 0 (6 * x1.toNatClampNeg + j4) (A 37 0 (6 * x1.toNatClampNeg + (j4 - 1)))) 38 0 (6 * x1.toNatClampNeg + j4) (A 38 0 (6 * x1.toNatClampNeg + (j4 - 1)))) (j4 - 1)
def O7_putLot (S A : sS) (G : sG) (x1 : Int32) (x2 : Int32) (x3 : Int32) : sS × sS := O7_putLot_8 G x1 x2 x3 7 S A ((A 36 0 (x1.toNatClampNeg)).toNatClampNeg)
set_option maxRecDepth 100000 in
set_option maxHeartbeats 4000000 in
theorem k7_putLot_8 {p : Program} {l : Launch} {e : Env} {s : State} {m : MethodId} {args : Array Value} {below : List Frame} {meth : Method} {c : Code} {D : va_G} {aC : Nat → ClassId} {ad : Nat → Nat → Nat} {X : Nat → Nat → Prop} {G : sG} (C0 : s_C p s m args meth c b7_putLot 5 R7 none D aC) (hX : xR X) (x1 : Int32) (x2 : Int32) (x3 : Int32) : ∀ (r : Nat) {S A : sS} {H : Heap} {locs : List Loc} (hB : s_B D aC ad X (s_N ad X) S A G s.heap H locs) (j4 : Nat) (hx1 : 0 ≤ x1.toInt ∧ x1.toInt < 64) (hj : j4 < 6) (hr3 : j4 < r) {ls : Array Slot} (hl : lv_has ls 5 [(0, .ref (ad 20 0)), (1, .int x1), (2, .int x2), (3, .int x3), (4, .int (nI j4))]) {o : sS × sS} (hO : O7_putLot_8 G x1 x2 x3 r S A j4 = o), W p l e (rmk 0) s m args below meth c H locs 0 0 (MQ below (s_Qv D aC ad X G o) args s 0 0 (s_N ad X)) (F0 m 8 ls []) := by
  obtain ⟨hx, hb, hml, hown, hw, hK, hr, hlocks⟩ := id C0
  intro r
  induction r with
  | zero =>
    intro S A H locs hB j4 hx1 hj hr3 ls hl o hO
    exact absurd hr3 (by omega)
  | succ r ih =>
    intro S A H locs hB j4 hx1 hj hr3 ls hl o hO
    rw [O7_putLot_8] at hO
    refine lv_iload hx hb d7_putLot_8 (lv_at hl 4 rfl) ?_
    refine lv_if_le (tgt := 89) hx hb d7_putLot_10 (by decide) (fun c_1 => ?_) (fun c_1 => ?_)
    · refine lv_aload_n hx hb d7_putLot_89 rfl (lv_at hl 0 rfl) ?_
      refine sr_get (v := .ref (ad 37 0)) hx hb hw hown hK hB 16 (hX 20 (by decide)) cf_20 us7 (by decide) fl_7_51 (rfl) d7_putLot_90 ?_
      refine lv_bipush (v := 6) hx hb d7_putLot_93 (by decide) ?_
      refine lv_iload_n hx hb d7_putLot_95 rfl (lv_at hl 1 rfl) ?_
      refine lv_imul hx hb d7_putLot_96 ?_
      refine lv_iload hx hb d7_putLot_97 (lv_at hl 4 rfl) ?_
      refine lv_iadd hx hb d7_putLot_99 ?_
      refine lv_iload_n hx hb d7_putLot_100 rfl (lv_at hl 3 rfl) ?_
      refine sr_iast hx hb hK hB (hX 37 (by decide)) rfl rfl (by (have aj4 := nI_toInt (n := j4) (by omega)); (have kc_1 := le_i c_1); (have l0 : (0 : Int32).toInt = 0 := rfl);  exact ix6_in (x := x1) (j := j4) (by omega) (by omega) (by omega) (show _ < ((384 : Nat) : Int) by omega)) d7_putLot_101 (fun H locs hB => ?_)
      rw [show ((6 * x1) + (nI j4)).toNatClampNeg = 6 * x1.toNatClampNeg + j4 from by (have aj4 := nI_toInt (n := j4) (by omega)); (have kc_1 := le_i c_1); (have l0 : (0 : Int32).toInt = 0 := rfl);  exact ix6 (x := x1) (j := j4) (by omega) (by omega) (by omega)] at hB
      refine lv_aload_n hx hb d7_putLot_102 rfl (lv_at hl 0 rfl) ?_
      refine sr_get (v := .ref (ad 38 0)) hx hb hw hown hK hB 17 (hX 20 (by decide)) cf_20 us7 (by decide) fl_7_54 (rfl) d7_putLot_103 ?_
      refine lv_bipush (v := 6) hx hb d7_putLot_106 (by decide) ?_
      refine lv_iload_n hx hb d7_putLot_108 rfl (lv_at hl 1 rfl) ?_
      refine lv_imul hx hb d7_putLot_109 ?_
      refine lv_iload hx hb d7_putLot_110 (lv_at hl 4 rfl) ?_
      refine lv_iadd hx hb d7_putLot_112 ?_
      refine lv_iload_n hx hb d7_putLot_113 rfl (lv_at hl 2 rfl) ?_
      refine sr_iast hx hb hK hB (hX 38 (by decide)) rfl rfl (by (have aj4 := nI_toInt (n := j4) (by omega)); (have kc_1 := le_i c_1); (have l0 : (0 : Int32).toInt = 0 := rfl);  exact ix6_in (x := x1) (j := j4) (by omega) (by omega) (by omega) (show _ < ((384 : Nat) : Int) by omega)) d7_putLot_114 (fun H locs hB => ?_)
      rw [show ((6 * x1) + (nI j4)).toNatClampNeg = 6 * x1.toNatClampNeg + j4 from by (have aj4 := nI_toInt (n := j4) (by omega)); (have kc_1 := le_i c_1); (have l0 : (0 : Int32).toInt = 0 := rfl);  exact ix6 (x := x1) (j := j4) (by omega) (by omega) (by omega)] at hB
      refine lv_aload_n hx hb d7_putLot_115 rfl (lv_at hl 0 rfl) ?_
      refine sr_get (v := .ref (ad 36 0)) hx hb hw hown hK hB 15 (hX 20 (by decide)) cf_20 us7 (by decide) fl_7_48 (rfl) d7_putLot_116 ?_
      refine lv_iload_n hx hb d7_putLot_119 rfl (lv_at hl 1 rfl) ?_
      refine lv_dup2_11 hx hb d7_putLot_120 rfl rfl ?_
      refine sr_iald (v := A 36 0 (x1.toNatClampNeg)) hx hb hK hB (hX 36 (by decide)) rfl rfl (by (refine vp_in_iff.mpr ?_); (show 0 ≤ x1.toInt ∧ x1.toInt < ((64 : Nat) : Int)); (have aj4 := nI_toInt (n := j4) (by omega));  omega) d7_putLot_121 (rfl) ?_
      refine lv_iconst (v := 1) hx hb d7_putLot_122 (by decide) ?_
      refine lv_iadd hx hb d7_putLot_123 ?_
      refine sr_iast hx hb hK hB (hX 36 (by decide)) rfl rfl (by (refine vp_in_iff.mpr ?_); (show 0 ≤ x1.toInt ∧ x1.toInt < ((64 : Nat) : Int)); (have aj4 := nI_toInt (n := j4) (by omega));  omega) d7_putLot_124 (fun H locs hB => ?_)
      exact se_v C0 hB (by rw [if_pos c_1] at hO; exact hO) d7_putLot_125
    · refine lv_aload_n hx hb d7_putLot_13 rfl (lv_at hl 0 rfl) ?_
      refine sr_get (v := .ref (ad 38 0)) hx hb hw hown hK hB 17 (hX 20 (by decide)) cf_20 us7 (by decide) fl_7_54 (rfl) d7_putLot_14 ?_
      refine lv_bipush (v := 6) hx hb d7_putLot_17 (by decide) ?_
      refine lv_iload_n hx hb d7_putLot_19 rfl (lv_at hl 1 rfl) ?_
      refine lv_imul hx hb d7_putLot_20 ?_
      refine lv_iload hx hb d7_putLot_21 (lv_at hl 4 rfl) ?_
      refine lv_iadd hx hb d7_putLot_23 ?_
      refine lv_iconst (v := 1) hx hb d7_putLot_24 (by decide) ?_
      refine lv_isub hx hb d7_putLot_25 ?_
      refine sr_iald (v := A 38 0 (6 * x1.toNatClampNeg + (j4 - 1))) hx hb hK hB (hX 38 (by decide)) rfl rfl (by (have aj4 := nI_toInt (n := j4) (by omega)); (have kc_1 := nle_i c_1); (have l0 : (0 : Int32).toInt = 0 := rfl);  exact ix6m_in (x := x1) (j := j4) (by omega) (by omega) (by omega) (by omega) (show _ ≤ ((384 : Nat) : Int) by omega)) d7_putLot_26 (by (have aj4 := nI_toInt (n := j4) (by omega)); (have kc_1 := nle_i c_1); (have l0 : (0 : Int32).toInt = 0 := rfl);  exact Eq.trans (congrArg (fun q => A 38 0 q) (ix6m (x := x1) (j := j4) (by omega) (by omega) (by omega) (by omega))) rfl) ?_
      refine lv_iload_n hx hb d7_putLot_27 rfl (lv_at hl 2 rfl) ?_
      refine lv_icmp_le (tgt := 89) hx hb d7_putLot_28 (by decide) (fun c_2 => ?_) (fun c_2 => ?_)
      · refine lv_aload_n hx hb d7_putLot_89 rfl (lv_at hl 0 rfl) ?_
        refine sr_get (v := .ref (ad 37 0)) hx hb hw hown hK hB 16 (hX 20 (by decide)) cf_20 us7 (by decide) fl_7_51 (rfl) d7_putLot_90 ?_
        refine lv_bipush (v := 6) hx hb d7_putLot_93 (by decide) ?_
        refine lv_iload_n hx hb d7_putLot_95 rfl (lv_at hl 1 rfl) ?_
        refine lv_imul hx hb d7_putLot_96 ?_
        refine lv_iload hx hb d7_putLot_97 (lv_at hl 4 rfl) ?_
        refine lv_iadd hx hb d7_putLot_99 ?_
        refine lv_iload_n hx hb d7_putLot_100 rfl (lv_at hl 3 rfl) ?_
        refine sr_iast hx hb hK hB (hX 37 (by decide)) rfl rfl (by (have aj4 := nI_toInt (n := j4) (by omega)); (have kc_1 := nle_i c_1); (have l0 : (0 : Int32).toInt = 0 := rfl);  exact ix6_in (x := x1) (j := j4) (by omega) (by omega) (by omega) (show _ < ((384 : Nat) : Int) by omega)) d7_putLot_101 (fun H locs hB => ?_)
        rw [show ((6 * x1) + (nI j4)).toNatClampNeg = 6 * x1.toNatClampNeg + j4 from by (have aj4 := nI_toInt (n := j4) (by omega)); (have kc_1 := nle_i c_1); (have l0 : (0 : Int32).toInt = 0 := rfl);  exact ix6 (x := x1) (j := j4) (by omega) (by omega) (by omega)] at hB
        refine lv_aload_n hx hb d7_putLot_102 rfl (lv_at hl 0 rfl) ?_
        refine sr_get (v := .ref (ad 38 0)) hx hb hw hown hK hB 17 (hX 20 (by decide)) cf_20 us7 (by decide) fl_7_54 (rfl) d7_putLot_103 ?_
        refine lv_bipush (v := 6) hx hb d7_putLot_106 (by decide) ?_
        refine lv_iload_n hx hb d7_putLot_108 rfl (lv_at hl 1 rfl) ?_
        refine lv_imul hx hb d7_putLot_109 ?_
        refine lv_iload hx hb d7_putLot_110 (lv_at hl 4 rfl) ?_
        refine lv_iadd hx hb d7_putLot_112 ?_
        refine lv_iload_n hx hb d7_putLot_113 rfl (lv_at hl 2 rfl) ?_
        refine sr_iast hx hb hK hB (hX 38 (by decide)) rfl rfl (by (have aj4 := nI_toInt (n := j4) (by omega)); (have kc_1 := nle_i c_1); (have l0 : (0 : Int32).toInt = 0 := rfl);  exact ix6_in (x := x1) (j := j4) (by omega) (by omega) (by omega) (show _ < ((384 : Nat) : Int) by omega)) d7_putLot_114 (fun H locs hB => ?_)
        rw [show ((6 * x1) + (nI j4)).toNatClampNeg = 6 * x1.toNatClampNeg + j4 from by (have aj4 := nI_toInt (n := j4) (by omega)); (have kc_1 := nle_i c_1); (have l0 : (0 : Int32).toInt = 0 := rfl);  exact ix6 (x := x1) (j := j4) (by omega) (by omega) (by omega)] at hB
        refine lv_aload_n hx hb d7_putLot_115 rfl (lv_at hl 0 rfl) ?_
        refine sr_get (v := .ref (ad 36 0)) hx hb hw hown hK hB 15 (hX 20 (by decide)) cf_20 us7 (by decide) fl_7_48 (rfl) d7_putLot_116 ?_
        refine lv_iload_n hx hb d7_putLot_119 rfl (lv_at hl 1 rfl) ?_
        refine lv_dup2_11 hx hb d7_putLot_120 rfl rfl ?_
        refine sr_iald (v := A 36 0 (x1.toNatClampNeg)) hx hb hK hB (hX 36 (by decide)) rfl rfl (by (refine vp_in_iff.mpr ?_); (show 0 ≤ x1.toInt ∧ x1.toInt < ((64 : Nat) : Int)); (have aj4 := nI_toInt (n := j4) (by omega));  omega) d7_putLot_121 (rfl) ?_
        refine lv_iconst (v := 1) hx hb d7_putLot_122 (by decide) ?_
        refine lv_iadd hx hb d7_putLot_123 ?_
        refine sr_iast hx hb hK hB (hX 36 (by decide)) rfl rfl (by (refine vp_in_iff.mpr ?_); (show 0 ≤ x1.toInt ∧ x1.toInt < ((64 : Nat) : Int)); (have aj4 := nI_toInt (n := j4) (by omega));  omega) d7_putLot_124 (fun H locs hB => ?_)
        exact se_v C0 hB (by rw [if_neg c_1, if_pos c_2] at hO; exact hO) d7_putLot_125
      · refine lv_aload_n hx hb d7_putLot_31 rfl (lv_at hl 0 rfl) ?_
        refine sr_get (v := .ref (ad 37 0)) hx hb hw hown hK hB 16 (hX 20 (by decide)) cf_20 us7 (by decide) fl_7_51 (rfl) d7_putLot_32 ?_
        refine lv_bipush (v := 6) hx hb d7_putLot_35 (by decide) ?_
        refine lv_iload_n hx hb d7_putLot_37 rfl (lv_at hl 1 rfl) ?_
        refine lv_imul hx hb d7_putLot_38 ?_
        refine lv_iload hx hb d7_putLot_39 (lv_at hl 4 rfl) ?_
        refine lv_iadd hx hb d7_putLot_41 ?_
        refine lv_aload_n hx hb d7_putLot_42 rfl (lv_at hl 0 rfl) ?_
        refine sr_get (v := .ref (ad 37 0)) hx hb hw hown hK hB 16 (hX 20 (by decide)) cf_20 us7 (by decide) fl_7_51 (rfl) d7_putLot_43 ?_
        refine lv_bipush (v := 6) hx hb d7_putLot_46 (by decide) ?_
        refine lv_iload_n hx hb d7_putLot_48 rfl (lv_at hl 1 rfl) ?_
        refine lv_imul hx hb d7_putLot_49 ?_
        refine lv_iload hx hb d7_putLot_50 (lv_at hl 4 rfl) ?_
        refine lv_iadd hx hb d7_putLot_52 ?_
        refine lv_iconst (v := 1) hx hb d7_putLot_53 (by decide) ?_
        refine lv_isub hx hb d7_putLot_54 ?_
        refine sr_iald (v := A 37 0 (6 * x1.toNatClampNeg + (j4 - 1))) hx hb hK hB (hX 37 (by decide)) rfl rfl (by (have aj4 := nI_toInt (n := j4) (by omega)); (have kc_1 := nle_i c_1); (have l0 : (0 : Int32).toInt = 0 := rfl);  exact ix6m_in (x := x1) (j := j4) (by omega) (by omega) (by omega) (by omega) (show _ ≤ ((384 : Nat) : Int) by omega)) d7_putLot_55 (by (have aj4 := nI_toInt (n := j4) (by omega)); (have kc_1 := nle_i c_1); (have l0 : (0 : Int32).toInt = 0 := rfl);  exact Eq.trans (congrArg (fun q => A 37 0 q) (ix6m (x := x1) (j := j4) (by omega) (by omega) (by omega) (by omega))) rfl) ?_
        refine sr_iast hx hb hK hB (hX 37 (by decide)) rfl rfl (by (have aj4 := nI_toInt (n := j4) (by omega)); (have kc_1 := nle_i c_1); (have l0 : (0 : Int32).toInt = 0 := rfl);  exact ix6_in (x := x1) (j := j4) (by omega) (by omega) (by omega) (show _ < ((384 : Nat) : Int) by omega)) d7_putLot_56 (fun H locs hB => ?_)
        rw [show ((6 * x1) + (nI j4)).toNatClampNeg = 6 * x1.toNatClampNeg + j4 from by (have aj4 := nI_toInt (n := j4) (by omega)); (have kc_1 := nle_i c_1); (have l0 : (0 : Int32).toInt = 0 := rfl);  exact ix6 (x := x1) (j := j4) (by omega) (by omega) (by omega)] at hB
        refine lv_aload_n hx hb d7_putLot_57 rfl (lv_at hl 0 rfl) ?_
        refine sr_get (v := .ref (ad 38 0)) hx hb hw hown hK hB 17 (hX 20 (by decide)) cf_20 us7 (by decide) fl_7_54 (rfl) d7_putLot_58 ?_
        refine lv_bipush (v := 6) hx hb d7_putLot_61 (by decide) ?_
        refine lv_iload_n hx hb d7_putLot_63 rfl (lv_at hl 1 rfl) ?_
        refine lv_imul hx hb d7_putLot_64 ?_
        refine lv_iload hx hb d7_putLot_65 (lv_at hl 4 rfl) ?_
        refine lv_iadd hx hb d7_putLot_67 ?_
        refine lv_aload_n hx hb d7_putLot_68 rfl (lv_at hl 0 rfl) ?_
        refine sr_get (v := .ref (ad 38 0)) hx hb hw hown hK hB 17 (hX 20 (by decide)) cf_20 us7 (by decide) fl_7_54 (rfl) d7_putLot_69 ?_
        refine lv_bipush (v := 6) hx hb d7_putLot_72 (by decide) ?_
        refine lv_iload_n hx hb d7_putLot_74 rfl (lv_at hl 1 rfl) ?_
        refine lv_imul hx hb d7_putLot_75 ?_
        refine lv_iload hx hb d7_putLot_76 (lv_at hl 4 rfl) ?_
        refine lv_iadd hx hb d7_putLot_78 ?_
        refine lv_iconst (v := 1) hx hb d7_putLot_79 (by decide) ?_
        refine lv_isub hx hb d7_putLot_80 ?_
        refine sr_iald (v := A 38 0 (6 * x1.toNatClampNeg + (j4 - 1))) hx hb hK hB (hX 38 (by decide)) rfl rfl (by (have aj4 := nI_toInt (n := j4) (by omega)); (have kc_1 := nle_i c_1); (have l0 : (0 : Int32).toInt = 0 := rfl);  exact ix6m_in (x := x1) (j := j4) (by omega) (by omega) (by omega) (by omega) (show _ ≤ ((384 : Nat) : Int) by omega)) d7_putLot_81 (by (have aj4 := nI_toInt (n := j4) (by omega)); (have kc_1 := nle_i c_1); (have l0 : (0 : Int32).toInt = 0 := rfl);  exact Eq.trans (congrArg (fun q => (up3 A 37 0 (6 * x1.toNatClampNeg + j4) (A 37 0 (6 * x1.toNatClampNeg + (j4 - 1)))) 38 0 q) (ix6m (x := x1) (j := j4) (by omega) (by omega) (by omega) (by omega))) rfl) ?_
        refine sr_iast hx hb hK hB (hX 38 (by decide)) rfl rfl (by (have aj4 := nI_toInt (n := j4) (by omega)); (have kc_1 := nle_i c_1); (have l0 : (0 : Int32).toInt = 0 := rfl);  exact ix6_in (x := x1) (j := j4) (by omega) (by omega) (by omega) (show _ < ((384 : Nat) : Int) by omega)) d7_putLot_82 (fun H locs hB => ?_)
        rw [show ((6 * x1) + (nI j4)).toNatClampNeg = 6 * x1.toNatClampNeg + j4 from by (have aj4 := nI_toInt (n := j4) (by omega)); (have kc_1 := nle_i c_1); (have l0 : (0 : Int32).toInt = 0 := rfl);  exact ix6 (x := x1) (j := j4) (by omega) (by omega) (by omega)] at hB
        refine lv_iinc (v := nI (j4 - 1)) (lv' := [(4, .int (nI (j4 - 1))), (0, .ref (ad 20 0)), (1, .int x1), (2, .int x2), (3, .int x3)]) hx hb d7_putLot_83 hl (k := 4) rfl (by rw [ofm1]; exact sb_m1 (by (have aj4 := nI_toInt (n := j4) (by omega)); (have kc_1 := nle_i c_1); (have kc_2 := nle_i c_2); (have l0 : (0 : Int32).toInt = 0 := rfl); (have l1 : (1 : Int32).toInt = 1 := rfl); (have l38 : (38 : Int32).toInt = 38 := rfl); (have l6 : (6 : Int32).toInt = 6 := rfl);  omega)) (by decide) rfl (fun ls hl => ?_)
        refine lv_goto (tgt := 8) hx hb d7_putLot_86 (by decide) ?_
        exact ih hB (j4 - 1) (by (have aj4 := nI_toInt (n := j4) (by omega)); (have kc_1 := nle_i c_1); (have l0 : (0 : Int32).toInt = 0 := rfl);  omega) (by (have aj4 := nI_toInt (n := j4) (by omega)); (have kc_1 := nle_i c_1); (have l0 : (0 : Int32).toInt = 0 := rfl);  omega) (by (have aj4 := nI_toInt (n := j4) (by omega)); (have kc_1 := nle_i c_1); (have l0 : (0 : Int32).toInt = 0 := rfl);  omega) (lv_sub hl [1, 2, 3, 4, 0] rfl) (by rw [if_neg c_1, if_neg c_2] at hO; exact hO)
set_option maxRecDepth 100000 in
set_option maxHeartbeats 4000000 in
theorem k7_putLot_0 {p : Program} {l : Launch} {e : Env} {s : State} {m : MethodId} {args : Array Value} {below : List Frame} {meth : Method} {c : Code} {D : va_G} {aC : Nat → ClassId} {ad : Nat → Nat → Nat} {X : Nat → Nat → Prop} {S A : sS} {G : sG} {H : Heap} {locs : List Loc} (C0 : s_C p s m args meth c b7_putLot 5 R7 none D aC) (hB : s_B D aC ad X (s_N ad X) S A G s.heap H locs) (hX : xR X) (x1 : Int32) (x2 : Int32) (x3 : Int32) (hx1 : 0 ≤ x1.toInt ∧ x1.toInt < 64) (hlo : ∀ i, i < 64 → 0 ≤ (A 36 0 i).toInt ∧ (A 36 0 i).toInt ≤ 6) (hl5 : (A 36 0 x1.toNatClampNeg).toInt < 6) {ls : Array Slot} (hl : lv_has ls 5 [(0, .ref (ad 20 0)), (1, .int x1), (2, .int x2), (3, .int x3)]) {o : sS × sS} (hO : O7_putLot S A G x1 x2 x3 = o) : W p l e (rmk 0) s m args below meth c H locs 0 0 (MQ below (s_Qv D aC ad X G o) args s 0 0 (s_N ad X)) (F0 m 0 ls []) := by
  obtain ⟨hx, hb, hml, hown, hw, hK, hr, hlocks⟩ := id C0
  unfold O7_putLot at hO
  refine lv_aload_n hx hb d7_putLot_0 rfl (lv_at hl 0 rfl) ?_
  refine sr_get (v := .ref (ad 36 0)) hx hb hw hown hK hB 15 (hX 20 (by decide)) cf_20 us7 (by decide) fl_7_48 (rfl) d7_putLot_1 ?_
  refine lv_iload_n hx hb d7_putLot_4 rfl (lv_at hl 1 rfl) ?_
  refine sr_iald (v := A 36 0 (x1.toNatClampNeg)) hx hb hK hB (hX 36 (by decide)) rfl rfl (by (refine vp_in_iff.mpr ?_); (show 0 ≤ x1.toInt ∧ x1.toInt < ((64 : Nat) : Int));  omega) d7_putLot_5 (rfl) ?_
  refine sr_top (y := nI ((A 36 0 (x1.toNatClampNeg)).toNatClampNeg)) (by have hL := at_i hlo hx1; exact nI_cl hL.1) ?_
  refine lv_istore (lv' := [(4, .int (nI ((A 36 0 (x1.toNatClampNeg)).toNatClampNeg))), (0, .ref (ad 20 0)), (1, .int x1), (2, .int x2), (3, .int x3)]) hx hb d7_putLot_6 hl (by decide) rfl (fun ls hl => ?_)
  exact k7_putLot_8 C0 hX x1 x2 x3 7 hB ((A 36 0 (x1.toNatClampNeg)).toNatClampNeg) (by  (have hL := at_i hlo hx1); (have hc := cl_i hL.1); omega) (by  (have hL := at_i hlo hx1); (have hc := cl_i hL.1); omega) (by  (have hL := at_i hlo hx1); (have hc := cl_i hL.1); omega) (lv_sub hl [1, 2, 3, 4, 0] rfl) (hO)
theorem hd7_putLot : y7_putLot.cls = R7 ∧ y7_putLot.cls ≠ "java/lang/invoke/MethodHandle" ∧ y7_putLot.cls ≠ "java/lang/invoke/VarHandle" ∧ (parseMethodDescriptor y7_putLot.desc).map (fun d => d.parameters.length) = some 3 := ⟨rfl, by decide, by decide, by decide +kernel⟩
theorem m7_putLot {l : Launch} {D : va_G} {aC : Nat → ClassId} {ad : Nat → Nat → Nat} {X : Nat → Nat → Prop} {S A : sS} {G : sG} (hX : xR X) (x1 : Int32) (x2 : Int32) (x3 : Int32) (hx1 : 0 ≤ x1.toInt ∧ x1.toInt < 64) (hlo : ∀ i, i < 64 → 0 ≤ (A 36 0 i).toInt ∧ (A 36 0 i).toInt ≤ 6) (hl5 : (A 36 0 x1.toNatClampNeg).toInt < 6) : Met l y7_putLot (.code y7_putLot b7_putLot 5 none :: wall) (rmk 0) (s_Pc [.ref (ad 20 0), .int x1, .int x2, .int x3] D aC ad X S A G) (s_Qv D aC ad X G (O7_putLot S A G x1 x2 x3)) 0 0 (s_N ad X) :=
  s_met (by decide) rfl (Nat.le_of_ble_eq_true rfl) (fun p e s m args below meth c C0 hB ls hl => k7_putLot_0 C0 hB hX x1 x2 x3 hx1 hlo hl5 hl rfl)

def O7_takeUnits_9 (G : sG) (x1 : Int32) (x2 : Int32) (x3 : Int32) : Nat → sS → sS → Int32 → Nat → Nat → sS × sS
  | 0, S, A, _, _, _ => (S, A)
  | r + 1, S, A, z4, j5, j6 => if A 36 0 (x1.toNatClampNeg) ≤ nI j6 then (S, (up3 A 36 0 (x1.toNatClampNeg) (nI j5))) else if x3 = 0 then if A 38 0 (6 * x1.toNatClampNeg + j6) ≤ S 20 0 0 then if (A 37 0 (6 * x1.toNatClampNeg + j6)) - 0 ≤ 0 then O7_takeUnits_9 G x1 x2 x3 r S A (z4 - 0) j5 (j6 + 1) else O7_takeUnits_9 G x1 x2 x3 r S (up3 (up3 A 37 0 (6 * x1.toNatClampNeg + j5) ((A 37 0 (6 * x1.toNatClampNeg + j6)) - 0)) 38 0 (6 * x1.toNatClampNeg + j5) (A 38 0 (6 * x1.toNatClampNeg + j6))) (z4 - 0) (j5 + 1) (j6 + 1) else if z4 ≤ A 37 0 (6 * x1.toNatClampNeg + j6) then if (A 37 0 (6 * x1.toNatClampNeg + j6)) - z4 ≤ 0 then O7_takeUnits_9 G x1 x2 x3 r S A (z4 - z4) j5 (j6 + 1) else O7_takeUnits_9 G x1 x2 x3 r S (up3 (up3 A 37 0 (6 * x1.toNatClampNeg + j5) ((A 37 0 (6 * x1.toNatClampNeg + j6)) - z4)) 38 0 (6 * x1.toNatClampNeg + j5) (A 38 0 (6 * x1.toNatClampNeg + j6))) (z4 - z4) (j5 + 1) (j6 + 1) else if (A 37 0 (6 * x1.toNatClampNeg + j6)) - (A 37 0 (6 * x1.toNatClampNeg + j6)) ≤ 0 then O7_takeUnits_9 G x1 x2 x3 r S A (z4 - (A 37 0 (6 * x1.toNatClampNeg + j6))) j5 (j6 + 1) else O7_takeUnits_9 G x1 x2 x3 r S (up3 (up3 A 37 0 (6 * x1.toNatClampNeg + j5) ((A 37 0 (6 * x1.toNatClampNeg + j6)) - (A 37 0 (6 * x1.toNatClampNeg + j6)))) 38 0 (6 * x1.toNatClampNeg + j5) (A 38 0 (6 * x1.toNatClampNeg + j6))) (z4 - (A 37 0 (6 * x1.toNatClampNeg + j6))) (j5 + 1) (j6 + 1) else if z4 ≤ A 37 0 (6 * x1.toNatClampNeg + j6) then if (A 37 0 (6 * x1.toNatClampNeg + j6)) - z4 ≤ 0 then O7_takeUnits_9 G x1 x2 x3 r S A (z4 - z4) j5 (j6 + 1) else O7_takeUnits_9 G x1 x2 x3 r S (up3 (up3 A 37 0 (6 * x1.toNatClampNeg + j5) ((A 37 0 (6 * x1.toNatClampNeg + j6)) - z4)) 38 0 (6 * x1.toNatClampNeg + j5) (A 38 0 (6 * x1.toNatClampNeg + j6))) (z4 - z4) (j5 + 1) (j6 + 1) else if (A 37 0 (6 * x1.toNatClampNeg + j6)) - (A 37 0 (6 * x1.toNatClampNeg + j6)) ≤ 0 then O7_takeUnits_9 G x1 x2 x3 r S A (z4 - (A 37 0 (6 * x1.toNatClampNeg + j6))) j5 (j6 + 1) else O7_takeUnits_9 G x1 x2 x3 r S (up3 (up3 A 37 0 (6 * x1.toNatClampNeg + j5) ((A 37 0 (6 * x1.toNatClampNeg + j6)) - (A 37 0 (6 * x1.toNatClampNeg + j6)))) 38 0 (6 * x1.toNatClampNeg + j5) (A 38 0 (6 * x1.toNatClampNeg + j6))) (z4 - (A 37 0 (6 * x1.toNatClampNeg + j6))) (j5 + 1) (j6 + 1)
def O7_takeUnits (S A : sS) (G : sG) (x1 : Int32) (x2 : Int32) (x3 : Int32) : sS × sS := O7_takeUnits_9 G x1 x2 x3 7 S A x2 0 0
set_option maxRecDepth 100000 in
set_option maxHeartbeats 4000000 in
theorem k7_takeUnits_9 {p : Program} {l : Launch} {e : Env} {s : State} {m : MethodId} {args : Array Value} {below : List Frame} {meth : Method} {c : Code} {D : va_G} {aC : Nat → ClassId} {ad : Nat → Nat → Nat} {X : Nat → Nat → Prop} {G : sG} (C0 : s_C p s m args meth c b7_takeUnits 11 R7 none D aC) (hX : xR X) (x1 : Int32) (x2 : Int32) (x3 : Int32) : ∀ (r : Nat) {S A : sS} {H : Heap} {locs : List Loc} (hB : s_B D aC ad X (s_N ad X) S A G s.heap H locs) (z4 : Int32) (j5 : Nat) (j6 : Nat) (hx1 : 0 ≤ x1.toInt ∧ x1.toInt < 64) (hL : (A 36 0 x1.toNatClampNeg).toInt ≤ 6) (hj : j5 ≤ j6 ∧ j6 ≤ 6) (hr3 : 6 < j6 + r) {ls : Array Slot} (hl : lv_has ls 11 [(0, .ref (ad 20 0)), (1, .int x1), (2, .int x2), (3, .int x3), (4, .int z4), (5, .int (nI j5)), (6, .int (nI j6))]) {o : sS × sS} (hO : O7_takeUnits_9 G x1 x2 x3 r S A z4 j5 j6 = o), W p l e (rmk 0) s m args below meth c H locs 0 0 (MQ below (s_Qv D aC ad X G o) args s 0 0 (s_N ad X)) (F0 m 9 ls []) := by
  obtain ⟨hx, hb, hml, hown, hw, hK, hr, hlocks⟩ := id C0
  intro r
  induction r with
  | zero =>
    intro S A H locs hB z4 j5 j6 hx1 hL hj hr3 ls hl o hO
    exact absurd hr3 (by omega)
  | succ r ih =>
    intro S A H locs hB z4 j5 j6 hx1 hL hj hr3 ls hl o hO
    rw [O7_takeUnits_9] at hO
    refine lv_iload hx hb d7_takeUnits_9 (lv_at hl 6 rfl) ?_
    refine lv_aload_n hx hb d7_takeUnits_11 rfl (lv_at hl 0 rfl) ?_
    refine sr_get (v := .ref (ad 36 0)) hx hb hw hown hK hB 15 (hX 20 (by decide)) cf_20 us7 (by decide) fl_7_48 (rfl) d7_takeUnits_12 ?_
    refine lv_iload_n hx hb d7_takeUnits_15 rfl (lv_at hl 1 rfl) ?_
    refine sr_iald (v := A 36 0 (x1.toNatClampNeg)) hx hb hK hB (hX 36 (by decide)) rfl rfl (by (refine vp_in_iff.mpr ?_); (show 0 ≤ x1.toInt ∧ x1.toInt < ((64 : Nat) : Int)); (have aj5 := nI_toInt (n := j5) (by omega)); (have aj6 := nI_toInt (n := j6) (by omega));  omega) d7_takeUnits_16 (rfl) ?_
    refine lv_icmp_ge (tgt := 155) hx hb d7_takeUnits_17 (by decide) (fun c_1 => ?_) (fun c_1 => ?_)
    · refine lv_aload_n hx hb d7_takeUnits_155 rfl (lv_at hl 0 rfl) ?_
      refine sr_get (v := .ref (ad 36 0)) hx hb hw hown hK hB 15 (hX 20 (by decide)) cf_20 us7 (by decide) fl_7_48 (rfl) d7_takeUnits_156 ?_
      refine lv_iload_n hx hb d7_takeUnits_159 rfl (lv_at hl 1 rfl) ?_
      refine lv_iload hx hb d7_takeUnits_160 (lv_at hl 5 rfl) ?_
      refine sr_iast hx hb hK hB (hX 36 (by decide)) rfl rfl (by (refine vp_in_iff.mpr ?_); (show 0 ≤ x1.toInt ∧ x1.toInt < ((64 : Nat) : Int)); (have aj5 := nI_toInt (n := j5) (by omega)); (have aj6 := nI_toInt (n := j6) (by omega)); (have kc_1 := le_i c_1); (have l0 : (0 : Int32).toInt = 0 := rfl); (have l36 : (36 : Int32).toInt = 36 := rfl);  omega) d7_takeUnits_162 (fun H locs hB => ?_)
      exact se_v C0 hB (by rw [if_pos c_1] at hO; exact hO) d7_takeUnits_163
    · refine lv_bipush (v := 6) hx hb d7_takeUnits_20 (by decide) ?_
      refine lv_iload_n hx hb d7_takeUnits_22 rfl (lv_at hl 1 rfl) ?_
      refine lv_imul hx hb d7_takeUnits_23 ?_
      refine lv_iload hx hb d7_takeUnits_24 (lv_at hl 6 rfl) ?_
      refine lv_iadd hx hb d7_takeUnits_26 ?_
      refine lv_istore (lv' := [(7, .int ((6 * x1) + (nI j6))), (0, .ref (ad 20 0)), (1, .int x1), (2, .int x2), (3, .int x3), (4, .int z4), (5, .int (nI j5)), (6, .int (nI j6))]) hx hb d7_takeUnits_27 hl (by decide) rfl (fun ls hl => ?_)
      refine lv_iload_n hx hb d7_takeUnits_29 rfl (lv_at hl 4 rfl) ?_
      refine lv_if_ne (tgt := 47) hx hb d7_takeUnits_30 (by decide) (fun c_2 => ?_) (fun c_2 => ?_)
      · refine lv_iconst (v := 1) hx hb d7_takeUnits_47 (by decide) ?_
        refine lv_goto (tgt := 52) hx hb d7_takeUnits_48 (by decide) ?_
        refine lv_istore (lv' := [(8, .int 1), (7, .int ((6 * x1) + (nI j6))), (0, .ref (ad 20 0)), (1, .int x1), (2, .int x2), (3, .int x3), (4, .int z4), (5, .int (nI j5)), (6, .int (nI j6))]) hx hb d7_takeUnits_52 hl (by decide) rfl (fun ls hl => ?_)
        refine lv_iload hx hb d7_takeUnits_54 (lv_at hl 0 rfl) ?_
        refine lv_if_ne (tgt := 63) hx hb d7_takeUnits_56 (by decide) (fun _ => ?_) (fun c => absurd c (by decide))
        refine lv_aload_n hx hb d7_takeUnits_63 rfl (lv_at hl 2 rfl) ?_
        refine sr_get (v := .ref (ad 37 0)) hx hb hw hown hK hB 16 (hX 20 (by decide)) cf_20 us7 (by decide) fl_7_51 (rfl) d7_takeUnits_64 ?_
        refine lv_iload hx hb d7_takeUnits_67 (lv_at hl 1 rfl) ?_
        refine sr_iald (v := A 37 0 (6 * x1.toNatClampNeg + j6)) hx hb hK hB (hX 37 (by decide)) rfl rfl (by (have aj5 := nI_toInt (n := j5) (by omega)); (have aj6 := nI_toInt (n := j6) (by omega)); (have kc_1 := nle_i c_1); (have l0 : (0 : Int32).toInt = 0 := rfl); (have l36 : (36 : Int32).toInt = 36 := rfl);  exact ix6_in (x := x1) (j := j6) (by omega) (by omega) (by omega) (show _ < ((384 : Nat) : Int) by omega)) d7_takeUnits_69 (by (have aj5 := nI_toInt (n := j5) (by omega)); (have aj6 := nI_toInt (n := j6) (by omega)); (have kc_1 := nle_i c_1); (have l0 : (0 : Int32).toInt = 0 := rfl); (have l36 : (36 : Int32).toInt = 36 := rfl);  exact Eq.trans (congrArg (fun q => A 37 0 q) (ix6 (x := x1) (j := j6) (by omega) (by omega) (by omega))) rfl) ?_
        refine lv_iload hx hb d7_takeUnits_70 (lv_at hl 6 rfl) ?_
        refine lv_icmp_ge (tgt := 85) hx hb d7_takeUnits_72 (by decide) (fun c_4 => ?_) (fun c_4 => ?_)
        · refine lv_iload hx hb d7_takeUnits_85 (lv_at hl 6 rfl) ?_
          refine lv_istore (lv' := [(9, .int z4), (8, .int 1), (7, .int ((6 * x1) + (nI j6))), (0, .ref (ad 20 0)), (1, .int x1), (2, .int x2), (3, .int x3), (4, .int z4), (5, .int (nI j5)), (6, .int (nI j6))]) hx hb d7_takeUnits_87 hl (by decide) rfl (fun ls hl => ?_)
          refine lv_iload hx hb d7_takeUnits_89 (lv_at hl 7 rfl) ?_
          refine lv_iload hx hb d7_takeUnits_91 (lv_at hl 0 rfl) ?_
          refine lv_isub hx hb d7_takeUnits_93 ?_
          refine lv_istore (lv' := [(4, .int (z4 - z4)), (9, .int z4), (8, .int 1), (7, .int ((6 * x1) + (nI j6))), (0, .ref (ad 20 0)), (1, .int x1), (2, .int x2), (3, .int x3), (5, .int (nI j5)), (6, .int (nI j6))]) hx hb d7_takeUnits_94 hl (by decide) rfl (fun ls hl => ?_)
          refine lv_aload_n hx hb d7_takeUnits_96 rfl (lv_at hl 4 rfl) ?_
          refine sr_get (v := .ref (ad 37 0)) hx hb hw hown hK hB 16 (hX 20 (by decide)) cf_20 us7 (by decide) fl_7_51 (rfl) d7_takeUnits_97 ?_
          refine lv_iload hx hb d7_takeUnits_100 (lv_at hl 3 rfl) ?_
          refine sr_iald (v := A 37 0 (6 * x1.toNatClampNeg + j6)) hx hb hK hB (hX 37 (by decide)) rfl rfl (by (have aj5 := nI_toInt (n := j5) (by omega)); (have aj6 := nI_toInt (n := j6) (by omega)); (have kc_1 := nle_i c_1); (have l0 : (0 : Int32).toInt = 0 := rfl); (have l36 : (36 : Int32).toInt = 36 := rfl);  exact ix6_in (x := x1) (j := j6) (by omega) (by omega) (by omega) (show _ < ((384 : Nat) : Int) by omega)) d7_takeUnits_102 (by (have aj5 := nI_toInt (n := j5) (by omega)); (have aj6 := nI_toInt (n := j6) (by omega)); (have kc_1 := nle_i c_1); (have l0 : (0 : Int32).toInt = 0 := rfl); (have l36 : (36 : Int32).toInt = 36 := rfl);  exact Eq.trans (congrArg (fun q => A 37 0 q) (ix6 (x := x1) (j := j6) (by omega) (by omega) (by omega))) rfl) ?_
          refine lv_iload hx hb d7_takeUnits_103 (lv_at hl 1 rfl) ?_
          refine lv_isub hx hb d7_takeUnits_105 ?_
          refine lv_istore (lv' := [(10, .int ((A 37 0 (6 * x1.toNatClampNeg + j6)) - z4)), (4, .int (z4 - z4)), (9, .int z4), (8, .int 1), (7, .int ((6 * x1) + (nI j6))), (0, .ref (ad 20 0)), (1, .int x1), (2, .int x2), (3, .int x3), (5, .int (nI j5)), (6, .int (nI j6))]) hx hb d7_takeUnits_106 hl (by decide) rfl (fun ls hl => ?_)
          refine lv_iload hx hb d7_takeUnits_108 (lv_at hl 0 rfl) ?_
          refine lv_if_le (tgt := 149) hx hb d7_takeUnits_110 (by decide) (fun c_5 => ?_) (fun c_5 => ?_)
          · refine lv_iinc (v := nI (j6 + 1)) (lv' := [(6, .int (nI (j6 + 1))), (10, .int ((A 37 0 (6 * x1.toNatClampNeg + j6)) - z4)), (4, .int (z4 - z4)), (9, .int z4), (8, .int 1), (7, .int ((6 * x1) + (nI j6))), (0, .ref (ad 20 0)), (1, .int x1), (2, .int x2), (3, .int x3), (5, .int (nI j5))]) hx hb d7_takeUnits_149 hl (k := 10) rfl (nI_1 j6) (by decide) rfl (fun ls hl => ?_)
            refine lv_goto (tgt := 9) hx hb d7_takeUnits_152 (by decide) ?_
            exact ih hB (z4 - z4) j5 (j6 + 1) (by (have aj5 := nI_toInt (n := j5) (by omega)); (have aj6 := nI_toInt (n := j6) (by omega)); (have kc_1 := nle_i c_1); (have l0 : (0 : Int32).toInt = 0 := rfl); (have l36 : (36 : Int32).toInt = 36 := rfl);  omega) (by (have aj5 := nI_toInt (n := j5) (by omega)); (have aj6 := nI_toInt (n := j6) (by omega)); (have kc_1 := nle_i c_1); (have l0 : (0 : Int32).toInt = 0 := rfl); (have l36 : (36 : Int32).toInt = 36 := rfl);  exact hL) (by (have aj5 := nI_toInt (n := j5) (by omega)); (have aj6 := nI_toInt (n := j6) (by omega)); (have kc_1 := nle_i c_1); (have l0 : (0 : Int32).toInt = 0 := rfl); (have l36 : (36 : Int32).toInt = 36 := rfl);  omega) (by (have aj5 := nI_toInt (n := j5) (by omega)); (have aj6 := nI_toInt (n := j6) (by omega)); (have kc_1 := nle_i c_1); (have l0 : (0 : Int32).toInt = 0 := rfl); (have l36 : (36 : Int32).toInt = 36 := rfl);  omega) (lv_sub hl [6, 7, 8, 9, 2, 10, 0] rfl) (by rw [if_neg c_1, if_neg c_2, if_pos c_4, if_pos c_5] at hO; exact hO)
          · refine lv_aload_n hx hb d7_takeUnits_113 rfl (lv_at hl 5 rfl) ?_
            refine sr_get (v := .ref (ad 37 0)) hx hb hw hown hK hB 16 (hX 20 (by decide)) cf_20 us7 (by decide) fl_7_51 (rfl) d7_takeUnits_114 ?_
            refine lv_bipush (v := 6) hx hb d7_takeUnits_117 (by decide) ?_
            refine lv_iload_n hx hb d7_takeUnits_119 rfl (lv_at hl 6 rfl) ?_
            refine lv_imul hx hb d7_takeUnits_120 ?_
            refine lv_iload hx hb d7_takeUnits_121 (lv_at hl 9 rfl) ?_
            refine lv_iadd hx hb d7_takeUnits_123 ?_
            refine lv_iload hx hb d7_takeUnits_124 (lv_at hl 0 rfl) ?_
            refine sr_iast hx hb hK hB (hX 37 (by decide)) rfl rfl (by (have aj5 := nI_toInt (n := j5) (by omega)); (have aj6 := nI_toInt (n := j6) (by omega)); (have kc_1 := nle_i c_1); (have l0 : (0 : Int32).toInt = 0 := rfl); (have l36 : (36 : Int32).toInt = 36 := rfl);  exact ix6_in (x := x1) (j := j5) (by omega) (by omega) (by omega) (show _ < ((384 : Nat) : Int) by omega)) d7_takeUnits_126 (fun H locs hB => ?_)
            rw [show ((6 * x1) + (nI j5)).toNatClampNeg = 6 * x1.toNatClampNeg + j5 from by (have aj5 := nI_toInt (n := j5) (by omega)); (have aj6 := nI_toInt (n := j6) (by omega)); (have kc_1 := nle_i c_1); (have l0 : (0 : Int32).toInt = 0 := rfl); (have l36 : (36 : Int32).toInt = 36 := rfl);  exact ix6 (x := x1) (j := j5) (by omega) (by omega) (by omega)] at hB
            refine lv_aload_n hx hb d7_takeUnits_127 rfl (lv_at hl 5 rfl) ?_
            refine sr_get (v := .ref (ad 38 0)) hx hb hw hown hK hB 17 (hX 20 (by decide)) cf_20 us7 (by decide) fl_7_54 (rfl) d7_takeUnits_128 ?_
            refine lv_bipush (v := 6) hx hb d7_takeUnits_131 (by decide) ?_
            refine lv_iload_n hx hb d7_takeUnits_133 rfl (lv_at hl 6 rfl) ?_
            refine lv_imul hx hb d7_takeUnits_134 ?_
            refine lv_iload hx hb d7_takeUnits_135 (lv_at hl 9 rfl) ?_
            refine lv_iadd hx hb d7_takeUnits_137 ?_
            refine lv_aload_n hx hb d7_takeUnits_138 rfl (lv_at hl 5 rfl) ?_
            refine sr_get (v := .ref (ad 38 0)) hx hb hw hown hK hB 17 (hX 20 (by decide)) cf_20 us7 (by decide) fl_7_54 (rfl) d7_takeUnits_139 ?_
            refine lv_iload hx hb d7_takeUnits_142 (lv_at hl 4 rfl) ?_
            refine sr_iald (v := A 38 0 (6 * x1.toNatClampNeg + j6)) hx hb hK hB (hX 38 (by decide)) rfl rfl (by (have aj5 := nI_toInt (n := j5) (by omega)); (have aj6 := nI_toInt (n := j6) (by omega)); (have kc_1 := nle_i c_1); (have l0 : (0 : Int32).toInt = 0 := rfl); (have l36 : (36 : Int32).toInt = 36 := rfl);  exact ix6_in (x := x1) (j := j6) (by omega) (by omega) (by omega) (show _ < ((384 : Nat) : Int) by omega)) d7_takeUnits_144 (by (have aj5 := nI_toInt (n := j5) (by omega)); (have aj6 := nI_toInt (n := j6) (by omega)); (have kc_1 := nle_i c_1); (have l0 : (0 : Int32).toInt = 0 := rfl); (have l36 : (36 : Int32).toInt = 36 := rfl);  exact Eq.trans (congrArg (fun q => (up3 A 37 0 (6 * x1.toNatClampNeg + j5) ((A 37 0 (6 * x1.toNatClampNeg + j6)) - z4)) 38 0 q) (ix6 (x := x1) (j := j6) (by omega) (by omega) (by omega))) rfl) ?_
            refine sr_iast hx hb hK hB (hX 38 (by decide)) rfl rfl (by (have aj5 := nI_toInt (n := j5) (by omega)); (have aj6 := nI_toInt (n := j6) (by omega)); (have kc_1 := nle_i c_1); (have l0 : (0 : Int32).toInt = 0 := rfl); (have l36 : (36 : Int32).toInt = 36 := rfl);  exact ix6_in (x := x1) (j := j5) (by omega) (by omega) (by omega) (show _ < ((384 : Nat) : Int) by omega)) d7_takeUnits_145 (fun H locs hB => ?_)
            rw [show ((6 * x1) + (nI j5)).toNatClampNeg = 6 * x1.toNatClampNeg + j5 from by (have aj5 := nI_toInt (n := j5) (by omega)); (have aj6 := nI_toInt (n := j6) (by omega)); (have kc_1 := nle_i c_1); (have l0 : (0 : Int32).toInt = 0 := rfl); (have l36 : (36 : Int32).toInt = 36 := rfl);  exact ix6 (x := x1) (j := j5) (by omega) (by omega) (by omega)] at hB
            refine lv_iinc (v := nI (j5 + 1)) (lv' := [(5, .int (nI (j5 + 1))), (10, .int ((A 37 0 (6 * x1.toNatClampNeg + j6)) - z4)), (4, .int (z4 - z4)), (9, .int z4), (8, .int 1), (7, .int ((6 * x1) + (nI j6))), (0, .ref (ad 20 0)), (1, .int x1), (2, .int x2), (3, .int x3), (6, .int (nI j6))]) hx hb d7_takeUnits_146 hl (k := 9) rfl (nI_1 j5) (by decide) rfl (fun ls hl => ?_)
            refine lv_iinc (v := nI (j6 + 1)) (lv' := [(6, .int (nI (j6 + 1))), (5, .int (nI (j5 + 1))), (10, .int ((A 37 0 (6 * x1.toNatClampNeg + j6)) - z4)), (4, .int (z4 - z4)), (9, .int z4), (8, .int 1), (7, .int ((6 * x1) + (nI j6))), (0, .ref (ad 20 0)), (1, .int x1), (2, .int x2), (3, .int x3)]) hx hb d7_takeUnits_149 hl (k := 10) rfl (nI_1 j6) (by decide) rfl (fun ls hl => ?_)
            refine lv_goto (tgt := 9) hx hb d7_takeUnits_152 (by decide) ?_
            exact ih hB (z4 - z4) (j5 + 1) (j6 + 1) (by (have aj5 := nI_toInt (n := j5) (by omega)); (have aj6 := nI_toInt (n := j6) (by omega)); (have kc_1 := nle_i c_1); (have l0 : (0 : Int32).toInt = 0 := rfl); (have l36 : (36 : Int32).toInt = 36 := rfl);  omega) (by (have aj5 := nI_toInt (n := j5) (by omega)); (have aj6 := nI_toInt (n := j6) (by omega)); (have kc_1 := nle_i c_1); (have l0 : (0 : Int32).toInt = 0 := rfl); (have l36 : (36 : Int32).toInt = 36 := rfl);  exact hL) (by (have aj5 := nI_toInt (n := j5) (by omega)); (have aj6 := nI_toInt (n := j6) (by omega)); (have kc_1 := nle_i c_1); (have l0 : (0 : Int32).toInt = 0 := rfl); (have l36 : (36 : Int32).toInt = 36 := rfl);  omega) (by (have aj5 := nI_toInt (n := j5) (by omega)); (have aj6 := nI_toInt (n := j6) (by omega)); (have kc_1 := nle_i c_1); (have l0 : (0 : Int32).toInt = 0 := rfl); (have l36 : (36 : Int32).toInt = 36 := rfl);  omega) (lv_sub hl [7, 8, 9, 10, 3, 1, 0] rfl) (by rw [if_neg c_1, if_neg c_2, if_pos c_4, if_neg c_5] at hO; exact hO)
        · refine lv_aload_n hx hb d7_takeUnits_75 rfl (lv_at hl 2 rfl) ?_
          refine sr_get (v := .ref (ad 37 0)) hx hb hw hown hK hB 16 (hX 20 (by decide)) cf_20 us7 (by decide) fl_7_51 (rfl) d7_takeUnits_76 ?_
          refine lv_iload hx hb d7_takeUnits_79 (lv_at hl 1 rfl) ?_
          refine sr_iald (v := A 37 0 (6 * x1.toNatClampNeg + j6)) hx hb hK hB (hX 37 (by decide)) rfl rfl (by (have aj5 := nI_toInt (n := j5) (by omega)); (have aj6 := nI_toInt (n := j6) (by omega)); (have kc_1 := nle_i c_1); (have l0 : (0 : Int32).toInt = 0 := rfl); (have l36 : (36 : Int32).toInt = 36 := rfl);  exact ix6_in (x := x1) (j := j6) (by omega) (by omega) (by omega) (show _ < ((384 : Nat) : Int) by omega)) d7_takeUnits_81 (by (have aj5 := nI_toInt (n := j5) (by omega)); (have aj6 := nI_toInt (n := j6) (by omega)); (have kc_1 := nle_i c_1); (have l0 : (0 : Int32).toInt = 0 := rfl); (have l36 : (36 : Int32).toInt = 36 := rfl);  exact Eq.trans (congrArg (fun q => A 37 0 q) (ix6 (x := x1) (j := j6) (by omega) (by omega) (by omega))) rfl) ?_
          refine lv_goto (tgt := 87) hx hb d7_takeUnits_82 (by decide) ?_
          refine lv_istore (lv' := [(9, .int (A 37 0 (6 * x1.toNatClampNeg + j6))), (8, .int 1), (7, .int ((6 * x1) + (nI j6))), (0, .ref (ad 20 0)), (1, .int x1), (2, .int x2), (3, .int x3), (4, .int z4), (5, .int (nI j5)), (6, .int (nI j6))]) hx hb d7_takeUnits_87 hl (by decide) rfl (fun ls hl => ?_)
          refine lv_iload hx hb d7_takeUnits_89 (lv_at hl 7 rfl) ?_
          refine lv_iload hx hb d7_takeUnits_91 (lv_at hl 0 rfl) ?_
          refine lv_isub hx hb d7_takeUnits_93 ?_
          refine lv_istore (lv' := [(4, .int (z4 - (A 37 0 (6 * x1.toNatClampNeg + j6)))), (9, .int (A 37 0 (6 * x1.toNatClampNeg + j6))), (8, .int 1), (7, .int ((6 * x1) + (nI j6))), (0, .ref (ad 20 0)), (1, .int x1), (2, .int x2), (3, .int x3), (5, .int (nI j5)), (6, .int (nI j6))]) hx hb d7_takeUnits_94 hl (by decide) rfl (fun ls hl => ?_)
          refine lv_aload_n hx hb d7_takeUnits_96 rfl (lv_at hl 4 rfl) ?_
          refine sr_get (v := .ref (ad 37 0)) hx hb hw hown hK hB 16 (hX 20 (by decide)) cf_20 us7 (by decide) fl_7_51 (rfl) d7_takeUnits_97 ?_
          refine lv_iload hx hb d7_takeUnits_100 (lv_at hl 3 rfl) ?_
          refine sr_iald (v := A 37 0 (6 * x1.toNatClampNeg + j6)) hx hb hK hB (hX 37 (by decide)) rfl rfl (by (have aj5 := nI_toInt (n := j5) (by omega)); (have aj6 := nI_toInt (n := j6) (by omega)); (have kc_1 := nle_i c_1); (have l0 : (0 : Int32).toInt = 0 := rfl); (have l36 : (36 : Int32).toInt = 36 := rfl);  exact ix6_in (x := x1) (j := j6) (by omega) (by omega) (by omega) (show _ < ((384 : Nat) : Int) by omega)) d7_takeUnits_102 (by (have aj5 := nI_toInt (n := j5) (by omega)); (have aj6 := nI_toInt (n := j6) (by omega)); (have kc_1 := nle_i c_1); (have l0 : (0 : Int32).toInt = 0 := rfl); (have l36 : (36 : Int32).toInt = 36 := rfl);  exact Eq.trans (congrArg (fun q => A 37 0 q) (ix6 (x := x1) (j := j6) (by omega) (by omega) (by omega))) rfl) ?_
          refine lv_iload hx hb d7_takeUnits_103 (lv_at hl 1 rfl) ?_
          refine lv_isub hx hb d7_takeUnits_105 ?_
          refine lv_istore (lv' := [(10, .int ((A 37 0 (6 * x1.toNatClampNeg + j6)) - (A 37 0 (6 * x1.toNatClampNeg + j6)))), (4, .int (z4 - (A 37 0 (6 * x1.toNatClampNeg + j6)))), (9, .int (A 37 0 (6 * x1.toNatClampNeg + j6))), (8, .int 1), (7, .int ((6 * x1) + (nI j6))), (0, .ref (ad 20 0)), (1, .int x1), (2, .int x2), (3, .int x3), (5, .int (nI j5)), (6, .int (nI j6))]) hx hb d7_takeUnits_106 hl (by decide) rfl (fun ls hl => ?_)
          refine lv_iload hx hb d7_takeUnits_108 (lv_at hl 0 rfl) ?_
          refine lv_if_le (tgt := 149) hx hb d7_takeUnits_110 (by decide) (fun c_6 => ?_) (fun c_6 => ?_)
          · refine lv_iinc (v := nI (j6 + 1)) (lv' := [(6, .int (nI (j6 + 1))), (10, .int ((A 37 0 (6 * x1.toNatClampNeg + j6)) - (A 37 0 (6 * x1.toNatClampNeg + j6)))), (4, .int (z4 - (A 37 0 (6 * x1.toNatClampNeg + j6)))), (9, .int (A 37 0 (6 * x1.toNatClampNeg + j6))), (8, .int 1), (7, .int ((6 * x1) + (nI j6))), (0, .ref (ad 20 0)), (1, .int x1), (2, .int x2), (3, .int x3), (5, .int (nI j5))]) hx hb d7_takeUnits_149 hl (k := 10) rfl (nI_1 j6) (by decide) rfl (fun ls hl => ?_)
            refine lv_goto (tgt := 9) hx hb d7_takeUnits_152 (by decide) ?_
            exact ih hB (z4 - (A 37 0 (6 * x1.toNatClampNeg + j6))) j5 (j6 + 1) (by (have aj5 := nI_toInt (n := j5) (by omega)); (have aj6 := nI_toInt (n := j6) (by omega)); (have kc_1 := nle_i c_1); (have l0 : (0 : Int32).toInt = 0 := rfl); (have l36 : (36 : Int32).toInt = 36 := rfl);  omega) (by (have aj5 := nI_toInt (n := j5) (by omega)); (have aj6 := nI_toInt (n := j6) (by omega)); (have kc_1 := nle_i c_1); (have l0 : (0 : Int32).toInt = 0 := rfl); (have l36 : (36 : Int32).toInt = 36 := rfl);  exact hL) (by (have aj5 := nI_toInt (n := j5) (by omega)); (have aj6 := nI_toInt (n := j6) (by omega)); (have kc_1 := nle_i c_1); (have l0 : (0 : Int32).toInt = 0 := rfl); (have l36 : (36 : Int32).toInt = 36 := rfl);  omega) (by (have aj5 := nI_toInt (n := j5) (by omega)); (have aj6 := nI_toInt (n := j6) (by omega)); (have kc_1 := nle_i c_1); (have l0 : (0 : Int32).toInt = 0 := rfl); (have l36 : (36 : Int32).toInt = 36 := rfl);  omega) (lv_sub hl [6, 7, 8, 9, 2, 10, 0] rfl) (by rw [if_neg c_1, if_neg c_2, if_neg c_4, if_pos c_6] at hO; exact hO)
          · refine lv_aload_n hx hb d7_takeUnits_113 rfl (lv_at hl 5 rfl) ?_
            refine sr_get (v := .ref (ad 37 0)) hx hb hw hown hK hB 16 (hX 20 (by decide)) cf_20 us7 (by decide) fl_7_51 (rfl) d7_takeUnits_114 ?_
            refine lv_bipush (v := 6) hx hb d7_takeUnits_117 (by decide) ?_
            refine lv_iload_n hx hb d7_takeUnits_119 rfl (lv_at hl 6 rfl) ?_
            refine lv_imul hx hb d7_takeUnits_120 ?_
            refine lv_iload hx hb d7_takeUnits_121 (lv_at hl 9 rfl) ?_
            refine lv_iadd hx hb d7_takeUnits_123 ?_
            refine lv_iload hx hb d7_takeUnits_124 (lv_at hl 0 rfl) ?_
            refine sr_iast hx hb hK hB (hX 37 (by decide)) rfl rfl (by (have aj5 := nI_toInt (n := j5) (by omega)); (have aj6 := nI_toInt (n := j6) (by omega)); (have kc_1 := nle_i c_1); (have l0 : (0 : Int32).toInt = 0 := rfl); (have l36 : (36 : Int32).toInt = 36 := rfl);  exact ix6_in (x := x1) (j := j5) (by omega) (by omega) (by omega) (show _ < ((384 : Nat) : Int) by omega)) d7_takeUnits_126 (fun H locs hB => ?_)
            rw [show ((6 * x1) + (nI j5)).toNatClampNeg = 6 * x1.toNatClampNeg + j5 from by (have aj5 := nI_toInt (n := j5) (by omega)); (have aj6 := nI_toInt (n := j6) (by omega)); (have kc_1 := nle_i c_1); (have l0 : (0 : Int32).toInt = 0 := rfl); (have l36 : (36 : Int32).toInt = 36 := rfl);  exact ix6 (x := x1) (j := j5) (by omega) (by omega) (by omega)] at hB
            refine lv_aload_n hx hb d7_takeUnits_127 rfl (lv_at hl 5 rfl) ?_
            refine sr_get (v := .ref (ad 38 0)) hx hb hw hown hK hB 17 (hX 20 (by decide)) cf_20 us7 (by decide) fl_7_54 (rfl) d7_takeUnits_128 ?_
            refine lv_bipush (v := 6) hx hb d7_takeUnits_131 (by decide) ?_
            refine lv_iload_n hx hb d7_takeUnits_133 rfl (lv_at hl 6 rfl) ?_
            refine lv_imul hx hb d7_takeUnits_134 ?_
            refine lv_iload hx hb d7_takeUnits_135 (lv_at hl 9 rfl) ?_
            refine lv_iadd hx hb d7_takeUnits_137 ?_
            refine lv_aload_n hx hb d7_takeUnits_138 rfl (lv_at hl 5 rfl) ?_
            refine sr_get (v := .ref (ad 38 0)) hx hb hw hown hK hB 17 (hX 20 (by decide)) cf_20 us7 (by decide) fl_7_54 (rfl) d7_takeUnits_139 ?_
            refine lv_iload hx hb d7_takeUnits_142 (lv_at hl 4 rfl) ?_
            refine sr_iald (v := A 38 0 (6 * x1.toNatClampNeg + j6)) hx hb hK hB (hX 38 (by decide)) rfl rfl (by (have aj5 := nI_toInt (n := j5) (by omega)); (have aj6 := nI_toInt (n := j6) (by omega)); (have kc_1 := nle_i c_1); (have l0 : (0 : Int32).toInt = 0 := rfl); (have l36 : (36 : Int32).toInt = 36 := rfl);  exact ix6_in (x := x1) (j := j6) (by omega) (by omega) (by omega) (show _ < ((384 : Nat) : Int) by omega)) d7_takeUnits_144 (by (have aj5 := nI_toInt (n := j5) (by omega)); (have aj6 := nI_toInt (n := j6) (by omega)); (have kc_1 := nle_i c_1); (have l0 : (0 : Int32).toInt = 0 := rfl); (have l36 : (36 : Int32).toInt = 36 := rfl);  exact Eq.trans (congrArg (fun q => (up3 A 37 0 (6 * x1.toNatClampNeg + j5) ((A 37 0 (6 * x1.toNatClampNeg + j6)) - (A 37 0 (6 * x1.toNatClampNeg + j6)))) 38 0 q) (ix6 (x := x1) (j := j6) (by omega) (by omega) (by omega))) rfl) ?_
            refine sr_iast hx hb hK hB (hX 38 (by decide)) rfl rfl (by (have aj5 := nI_toInt (n := j5) (by omega)); (have aj6 := nI_toInt (n := j6) (by omega)); (have kc_1 := nle_i c_1); (have l0 : (0 : Int32).toInt = 0 := rfl); (have l36 : (36 : Int32).toInt = 36 := rfl);  exact ix6_in (x := x1) (j := j5) (by omega) (by omega) (by omega) (show _ < ((384 : Nat) : Int) by omega)) d7_takeUnits_145 (fun H locs hB => ?_)
            rw [show ((6 * x1) + (nI j5)).toNatClampNeg = 6 * x1.toNatClampNeg + j5 from by (have aj5 := nI_toInt (n := j5) (by omega)); (have aj6 := nI_toInt (n := j6) (by omega)); (have kc_1 := nle_i c_1); (have l0 : (0 : Int32).toInt = 0 := rfl); (have l36 : (36 : Int32).toInt = 36 := rfl);  exact ix6 (x := x1) (j := j5) (by omega) (by omega) (by omega)] at hB
            refine lv_iinc (v := nI (j5 + 1)) (lv' := [(5, .int (nI (j5 + 1))), (10, .int ((A 37 0 (6 * x1.toNatClampNeg + j6)) - (A 37 0 (6 * x1.toNatClampNeg + j6)))), (4, .int (z4 - (A 37 0 (6 * x1.toNatClampNeg + j6)))), (9, .int (A 37 0 (6 * x1.toNatClampNeg + j6))), (8, .int 1), (7, .int ((6 * x1) + (nI j6))), (0, .ref (ad 20 0)), (1, .int x1), (2, .int x2), (3, .int x3), (6, .int (nI j6))]) hx hb d7_takeUnits_146 hl (k := 9) rfl (nI_1 j5) (by decide) rfl (fun ls hl => ?_)
            refine lv_iinc (v := nI (j6 + 1)) (lv' := [(6, .int (nI (j6 + 1))), (5, .int (nI (j5 + 1))), (10, .int ((A 37 0 (6 * x1.toNatClampNeg + j6)) - (A 37 0 (6 * x1.toNatClampNeg + j6)))), (4, .int (z4 - (A 37 0 (6 * x1.toNatClampNeg + j6)))), (9, .int (A 37 0 (6 * x1.toNatClampNeg + j6))), (8, .int 1), (7, .int ((6 * x1) + (nI j6))), (0, .ref (ad 20 0)), (1, .int x1), (2, .int x2), (3, .int x3)]) hx hb d7_takeUnits_149 hl (k := 10) rfl (nI_1 j6) (by decide) rfl (fun ls hl => ?_)
            refine lv_goto (tgt := 9) hx hb d7_takeUnits_152 (by decide) ?_
            exact ih hB (z4 - (A 37 0 (6 * x1.toNatClampNeg + j6))) (j5 + 1) (j6 + 1) (by (have aj5 := nI_toInt (n := j5) (by omega)); (have aj6 := nI_toInt (n := j6) (by omega)); (have kc_1 := nle_i c_1); (have l0 : (0 : Int32).toInt = 0 := rfl); (have l36 : (36 : Int32).toInt = 36 := rfl);  omega) (by (have aj5 := nI_toInt (n := j5) (by omega)); (have aj6 := nI_toInt (n := j6) (by omega)); (have kc_1 := nle_i c_1); (have l0 : (0 : Int32).toInt = 0 := rfl); (have l36 : (36 : Int32).toInt = 36 := rfl);  exact hL) (by (have aj5 := nI_toInt (n := j5) (by omega)); (have aj6 := nI_toInt (n := j6) (by omega)); (have kc_1 := nle_i c_1); (have l0 : (0 : Int32).toInt = 0 := rfl); (have l36 : (36 : Int32).toInt = 36 := rfl);  omega) (by (have aj5 := nI_toInt (n := j5) (by omega)); (have aj6 := nI_toInt (n := j6) (by omega)); (have kc_1 := nle_i c_1); (have l0 : (0 : Int32).toInt = 0 := rfl); (have l36 : (36 : Int32).toInt = 36 := rfl);  omega) (lv_sub hl [7, 8, 9, 10, 3, 1, 0] rfl) (by rw [if_neg c_1, if_neg c_2, if_neg c_4, if_neg c_6] at hO; exact hO)
      · refine lv_aload_n hx hb d7_takeUnits_33 rfl (lv_at hl 1 rfl) ?_
        refine sr_get (v := .ref (ad 38 0)) hx hb hw hown hK hB 17 (hX 20 (by decide)) cf_20 us7 (by decide) fl_7_54 (rfl) d7_takeUnits_34 ?_
        refine lv_iload hx hb d7_takeUnits_37 (lv_at hl 0 rfl) ?_
        refine sr_iald (v := A 38 0 (6 * x1.toNatClampNeg + j6)) hx hb hK hB (hX 38 (by decide)) rfl rfl (by (have aj5 := nI_toInt (n := j5) (by omega)); (have aj6 := nI_toInt (n := j6) (by omega)); (have kc_1 := nle_i c_1); (have l0 : (0 : Int32).toInt = 0 := rfl); (have l36 : (36 : Int32).toInt = 36 := rfl);  exact ix6_in (x := x1) (j := j6) (by omega) (by omega) (by omega) (show _ < ((384 : Nat) : Int) by omega)) d7_takeUnits_39 (by (have aj5 := nI_toInt (n := j5) (by omega)); (have aj6 := nI_toInt (n := j6) (by omega)); (have kc_1 := nle_i c_1); (have l0 : (0 : Int32).toInt = 0 := rfl); (have l36 : (36 : Int32).toInt = 36 := rfl);  exact Eq.trans (congrArg (fun q => A 38 0 q) (ix6 (x := x1) (j := j6) (by omega) (by omega) (by omega))) rfl) ?_
        refine lv_aload_n hx hb d7_takeUnits_40 rfl (lv_at hl 1 rfl) ?_
        refine sr_get (v := .int (S 20 0 0)) hx hb hw hown hK hB 0 (hX 20 (by decide)) cf_20 us7 (by decide) fl_7_100 (rfl) d7_takeUnits_41 ?_
        refine lv_icmp_le (tgt := 51) hx hb d7_takeUnits_44 (by decide) (fun c_7 => ?_) (fun c_7 => ?_)
        · refine lv_iconst (v := 0) hx hb d7_takeUnits_51 (by decide) ?_
          refine lv_istore (lv' := [(8, .int 0), (7, .int ((6 * x1) + (nI j6))), (0, .ref (ad 20 0)), (1, .int x1), (2, .int x2), (3, .int x3), (4, .int z4), (5, .int (nI j5)), (6, .int (nI j6))]) hx hb d7_takeUnits_52 hl (by decide) rfl (fun ls hl => ?_)
          refine lv_iload hx hb d7_takeUnits_54 (lv_at hl 0 rfl) ?_
          refine lv_if_ne (tgt := 63) hx hb d7_takeUnits_56 (by decide) (fun c => absurd (by decide) c) (fun _ => ?_)
          refine lv_iconst (v := 0) hx hb d7_takeUnits_59 (by decide) ?_
          refine lv_goto (tgt := 87) hx hb d7_takeUnits_60 (by decide) ?_
          refine lv_istore (lv' := [(9, .int 0), (8, .int 0), (7, .int ((6 * x1) + (nI j6))), (0, .ref (ad 20 0)), (1, .int x1), (2, .int x2), (3, .int x3), (4, .int z4), (5, .int (nI j5)), (6, .int (nI j6))]) hx hb d7_takeUnits_87 hl (by decide) rfl (fun ls hl => ?_)
          refine lv_iload hx hb d7_takeUnits_89 (lv_at hl 7 rfl) ?_
          refine lv_iload hx hb d7_takeUnits_91 (lv_at hl 0 rfl) ?_
          refine lv_isub hx hb d7_takeUnits_93 ?_
          refine lv_istore (lv' := [(4, .int (z4 - 0)), (9, .int 0), (8, .int 0), (7, .int ((6 * x1) + (nI j6))), (0, .ref (ad 20 0)), (1, .int x1), (2, .int x2), (3, .int x3), (5, .int (nI j5)), (6, .int (nI j6))]) hx hb d7_takeUnits_94 hl (by decide) rfl (fun ls hl => ?_)
          refine lv_aload_n hx hb d7_takeUnits_96 rfl (lv_at hl 4 rfl) ?_
          refine sr_get (v := .ref (ad 37 0)) hx hb hw hown hK hB 16 (hX 20 (by decide)) cf_20 us7 (by decide) fl_7_51 (rfl) d7_takeUnits_97 ?_
          refine lv_iload hx hb d7_takeUnits_100 (lv_at hl 3 rfl) ?_
          refine sr_iald (v := A 37 0 (6 * x1.toNatClampNeg + j6)) hx hb hK hB (hX 37 (by decide)) rfl rfl (by (have aj5 := nI_toInt (n := j5) (by omega)); (have aj6 := nI_toInt (n := j6) (by omega)); (have kc_1 := nle_i c_1); (have l0 : (0 : Int32).toInt = 0 := rfl); (have l36 : (36 : Int32).toInt = 36 := rfl);  exact ix6_in (x := x1) (j := j6) (by omega) (by omega) (by omega) (show _ < ((384 : Nat) : Int) by omega)) d7_takeUnits_102 (by (have aj5 := nI_toInt (n := j5) (by omega)); (have aj6 := nI_toInt (n := j6) (by omega)); (have kc_1 := nle_i c_1); (have l0 : (0 : Int32).toInt = 0 := rfl); (have l36 : (36 : Int32).toInt = 36 := rfl);  exact Eq.trans (congrArg (fun q => A 37 0 q) (ix6 (x := x1) (j := j6) (by omega) (by omega) (by omega))) rfl) ?_
          refine lv_iload hx hb d7_takeUnits_103 (lv_at hl 1 rfl) ?_
          refine lv_isub hx hb d7_takeUnits_105 ?_
          refine lv_istore (lv' := [(10, .int ((A 37 0 (6 * x1.toNatClampNeg + j6)) - 0)), (4, .int (z4 - 0)), (9, .int 0), (8, .int 0), (7, .int ((6 * x1) + (nI j6))), (0, .ref (ad 20 0)), (1, .int x1), (2, .int x2), (3, .int x3), (5, .int (nI j5)), (6, .int (nI j6))]) hx hb d7_takeUnits_106 hl (by decide) rfl (fun ls hl => ?_)
          refine lv_iload hx hb d7_takeUnits_108 (lv_at hl 0 rfl) ?_
          refine lv_if_le (tgt := 149) hx hb d7_takeUnits_110 (by decide) (fun c_9 => ?_) (fun c_9 => ?_)
          · refine lv_iinc (v := nI (j6 + 1)) (lv' := [(6, .int (nI (j6 + 1))), (10, .int ((A 37 0 (6 * x1.toNatClampNeg + j6)) - 0)), (4, .int (z4 - 0)), (9, .int 0), (8, .int 0), (7, .int ((6 * x1) + (nI j6))), (0, .ref (ad 20 0)), (1, .int x1), (2, .int x2), (3, .int x3), (5, .int (nI j5))]) hx hb d7_takeUnits_149 hl (k := 10) rfl (nI_1 j6) (by decide) rfl (fun ls hl => ?_)
            refine lv_goto (tgt := 9) hx hb d7_takeUnits_152 (by decide) ?_
            exact ih hB (z4 - 0) j5 (j6 + 1) (by (have aj5 := nI_toInt (n := j5) (by omega)); (have aj6 := nI_toInt (n := j6) (by omega)); (have kc_1 := nle_i c_1); (have l0 : (0 : Int32).toInt = 0 := rfl); (have l36 : (36 : Int32).toInt = 36 := rfl);  omega) (by (have aj5 := nI_toInt (n := j5) (by omega)); (have aj6 := nI_toInt (n := j6) (by omega)); (have kc_1 := nle_i c_1); (have l0 : (0 : Int32).toInt = 0 := rfl); (have l36 : (36 : Int32).toInt = 36 := rfl);  exact hL) (by (have aj5 := nI_toInt (n := j5) (by omega)); (have aj6 := nI_toInt (n := j6) (by omega)); (have kc_1 := nle_i c_1); (have l0 : (0 : Int32).toInt = 0 := rfl); (have l36 : (36 : Int32).toInt = 36 := rfl);  omega) (by (have aj5 := nI_toInt (n := j5) (by omega)); (have aj6 := nI_toInt (n := j6) (by omega)); (have kc_1 := nle_i c_1); (have l0 : (0 : Int32).toInt = 0 := rfl); (have l36 : (36 : Int32).toInt = 36 := rfl);  omega) (lv_sub hl [6, 7, 8, 9, 2, 10, 0] rfl) (by rw [if_neg c_1, if_pos c_2, if_pos c_7, if_pos c_9] at hO; exact hO)
          · refine lv_aload_n hx hb d7_takeUnits_113 rfl (lv_at hl 5 rfl) ?_
            refine sr_get (v := .ref (ad 37 0)) hx hb hw hown hK hB 16 (hX 20 (by decide)) cf_20 us7 (by decide) fl_7_51 (rfl) d7_takeUnits_114 ?_
            refine lv_bipush (v := 6) hx hb d7_takeUnits_117 (by decide) ?_
            refine lv_iload_n hx hb d7_takeUnits_119 rfl (lv_at hl 6 rfl) ?_
            refine lv_imul hx hb d7_takeUnits_120 ?_
            refine lv_iload hx hb d7_takeUnits_121 (lv_at hl 9 rfl) ?_
            refine lv_iadd hx hb d7_takeUnits_123 ?_
            refine lv_iload hx hb d7_takeUnits_124 (lv_at hl 0 rfl) ?_
            refine sr_iast hx hb hK hB (hX 37 (by decide)) rfl rfl (by (have aj5 := nI_toInt (n := j5) (by omega)); (have aj6 := nI_toInt (n := j6) (by omega)); (have kc_1 := nle_i c_1); (have l0 : (0 : Int32).toInt = 0 := rfl); (have l36 : (36 : Int32).toInt = 36 := rfl);  exact ix6_in (x := x1) (j := j5) (by omega) (by omega) (by omega) (show _ < ((384 : Nat) : Int) by omega)) d7_takeUnits_126 (fun H locs hB => ?_)
            rw [show ((6 * x1) + (nI j5)).toNatClampNeg = 6 * x1.toNatClampNeg + j5 from by (have aj5 := nI_toInt (n := j5) (by omega)); (have aj6 := nI_toInt (n := j6) (by omega)); (have kc_1 := nle_i c_1); (have l0 : (0 : Int32).toInt = 0 := rfl); (have l36 : (36 : Int32).toInt = 36 := rfl);  exact ix6 (x := x1) (j := j5) (by omega) (by omega) (by omega)] at hB
            refine lv_aload_n hx hb d7_takeUnits_127 rfl (lv_at hl 5 rfl) ?_
            refine sr_get (v := .ref (ad 38 0)) hx hb hw hown hK hB 17 (hX 20 (by decide)) cf_20 us7 (by decide) fl_7_54 (rfl) d7_takeUnits_128 ?_
            refine lv_bipush (v := 6) hx hb d7_takeUnits_131 (by decide) ?_
            refine lv_iload_n hx hb d7_takeUnits_133 rfl (lv_at hl 6 rfl) ?_
            refine lv_imul hx hb d7_takeUnits_134 ?_
            refine lv_iload hx hb d7_takeUnits_135 (lv_at hl 9 rfl) ?_
            refine lv_iadd hx hb d7_takeUnits_137 ?_
            refine lv_aload_n hx hb d7_takeUnits_138 rfl (lv_at hl 5 rfl) ?_
            refine sr_get (v := .ref (ad 38 0)) hx hb hw hown hK hB 17 (hX 20 (by decide)) cf_20 us7 (by decide) fl_7_54 (rfl) d7_takeUnits_139 ?_
            refine lv_iload hx hb d7_takeUnits_142 (lv_at hl 4 rfl) ?_
            refine sr_iald (v := A 38 0 (6 * x1.toNatClampNeg + j6)) hx hb hK hB (hX 38 (by decide)) rfl rfl (by (have aj5 := nI_toInt (n := j5) (by omega)); (have aj6 := nI_toInt (n := j6) (by omega)); (have kc_1 := nle_i c_1); (have l0 : (0 : Int32).toInt = 0 := rfl); (have l36 : (36 : Int32).toInt = 36 := rfl);  exact ix6_in (x := x1) (j := j6) (by omega) (by omega) (by omega) (show _ < ((384 : Nat) : Int) by omega)) d7_takeUnits_144 (by (have aj5 := nI_toInt (n := j5) (by omega)); (have aj6 := nI_toInt (n := j6) (by omega)); (have kc_1 := nle_i c_1); (have l0 : (0 : Int32).toInt = 0 := rfl); (have l36 : (36 : Int32).toInt = 36 := rfl);  exact Eq.trans (congrArg (fun q => (up3 A 37 0 (6 * x1.toNatClampNeg + j5) ((A 37 0 (6 * x1.toNatClampNeg + j6)) - 0)) 38 0 q) (ix6 (x := x1) (j := j6) (by omega) (by omega) (by omega))) rfl) ?_
            refine sr_iast hx hb hK hB (hX 38 (by decide)) rfl rfl (by (have aj5 := nI_toInt (n := j5) (by omega)); (have aj6 := nI_toInt (n := j6) (by omega)); (have kc_1 := nle_i c_1); (have l0 : (0 : Int32).toInt = 0 := rfl); (have l36 : (36 : Int32).toInt = 36 := rfl);  exact ix6_in (x := x1) (j := j5) (by omega) (by omega) (by omega) (show _ < ((384 : Nat) : Int) by omega)) d7_takeUnits_145 (fun H locs hB => ?_)
            rw [show ((6 * x1) + (nI j5)).toNatClampNeg = 6 * x1.toNatClampNeg + j5 from by (have aj5 := nI_toInt (n := j5) (by omega)); (have aj6 := nI_toInt (n := j6) (by omega)); (have kc_1 := nle_i c_1); (have l0 : (0 : Int32).toInt = 0 := rfl); (have l36 : (36 : Int32).toInt = 36 := rfl);  exact ix6 (x := x1) (j := j5) (by omega) (by omega) (by omega)] at hB
            refine lv_iinc (v := nI (j5 + 1)) (lv' := [(5, .int (nI (j5 + 1))), (10, .int ((A 37 0 (6 * x1.toNatClampNeg + j6)) - 0)), (4, .int (z4 - 0)), (9, .int 0), (8, .int 0), (7, .int ((6 * x1) + (nI j6))), (0, .ref (ad 20 0)), (1, .int x1), (2, .int x2), (3, .int x3), (6, .int (nI j6))]) hx hb d7_takeUnits_146 hl (k := 9) rfl (nI_1 j5) (by decide) rfl (fun ls hl => ?_)
            refine lv_iinc (v := nI (j6 + 1)) (lv' := [(6, .int (nI (j6 + 1))), (5, .int (nI (j5 + 1))), (10, .int ((A 37 0 (6 * x1.toNatClampNeg + j6)) - 0)), (4, .int (z4 - 0)), (9, .int 0), (8, .int 0), (7, .int ((6 * x1) + (nI j6))), (0, .ref (ad 20 0)), (1, .int x1), (2, .int x2), (3, .int x3)]) hx hb d7_takeUnits_149 hl (k := 10) rfl (nI_1 j6) (by decide) rfl (fun ls hl => ?_)
            refine lv_goto (tgt := 9) hx hb d7_takeUnits_152 (by decide) ?_
            exact ih hB (z4 - 0) (j5 + 1) (j6 + 1) (by (have aj5 := nI_toInt (n := j5) (by omega)); (have aj6 := nI_toInt (n := j6) (by omega)); (have kc_1 := nle_i c_1); (have l0 : (0 : Int32).toInt = 0 := rfl); (have l36 : (36 : Int32).toInt = 36 := rfl);  omega) (by (have aj5 := nI_toInt (n := j5) (by omega)); (have aj6 := nI_toInt (n := j6) (by omega)); (have kc_1 := nle_i c_1); (have l0 : (0 : Int32).toInt = 0 := rfl); (have l36 : (36 : Int32).toInt = 36 := rfl);  exact hL) (by (have aj5 := nI_toInt (n := j5) (by omega)); (have aj6 := nI_toInt (n := j6) (by omega)); (have kc_1 := nle_i c_1); (have l0 : (0 : Int32).toInt = 0 := rfl); (have l36 : (36 : Int32).toInt = 36 := rfl);  omega) (by (have aj5 := nI_toInt (n := j5) (by omega)); (have aj6 := nI_toInt (n := j6) (by omega)); (have kc_1 := nle_i c_1); (have l0 : (0 : Int32).toInt = 0 := rfl); (have l36 : (36 : Int32).toInt = 36 := rfl);  omega) (lv_sub hl [7, 8, 9, 10, 3, 1, 0] rfl) (by rw [if_neg c_1, if_pos c_2, if_pos c_7, if_neg c_9] at hO; exact hO)
        · refine lv_iconst (v := 1) hx hb d7_takeUnits_47 (by decide) ?_
          refine lv_goto (tgt := 52) hx hb d7_takeUnits_48 (by decide) ?_
          refine lv_istore (lv' := [(8, .int 1), (7, .int ((6 * x1) + (nI j6))), (0, .ref (ad 20 0)), (1, .int x1), (2, .int x2), (3, .int x3), (4, .int z4), (5, .int (nI j5)), (6, .int (nI j6))]) hx hb d7_takeUnits_52 hl (by decide) rfl (fun ls hl => ?_)
          refine lv_iload hx hb d7_takeUnits_54 (lv_at hl 0 rfl) ?_
          refine lv_if_ne (tgt := 63) hx hb d7_takeUnits_56 (by decide) (fun _ => ?_) (fun c => absurd c (by decide))
          refine lv_aload_n hx hb d7_takeUnits_63 rfl (lv_at hl 2 rfl) ?_
          refine sr_get (v := .ref (ad 37 0)) hx hb hw hown hK hB 16 (hX 20 (by decide)) cf_20 us7 (by decide) fl_7_51 (rfl) d7_takeUnits_64 ?_
          refine lv_iload hx hb d7_takeUnits_67 (lv_at hl 1 rfl) ?_
          refine sr_iald (v := A 37 0 (6 * x1.toNatClampNeg + j6)) hx hb hK hB (hX 37 (by decide)) rfl rfl (by (have aj5 := nI_toInt (n := j5) (by omega)); (have aj6 := nI_toInt (n := j6) (by omega)); (have kc_1 := nle_i c_1); (have l0 : (0 : Int32).toInt = 0 := rfl); (have l36 : (36 : Int32).toInt = 36 := rfl);  exact ix6_in (x := x1) (j := j6) (by omega) (by omega) (by omega) (show _ < ((384 : Nat) : Int) by omega)) d7_takeUnits_69 (by (have aj5 := nI_toInt (n := j5) (by omega)); (have aj6 := nI_toInt (n := j6) (by omega)); (have kc_1 := nle_i c_1); (have l0 : (0 : Int32).toInt = 0 := rfl); (have l36 : (36 : Int32).toInt = 36 := rfl);  exact Eq.trans (congrArg (fun q => A 37 0 q) (ix6 (x := x1) (j := j6) (by omega) (by omega) (by omega))) rfl) ?_
          refine lv_iload hx hb d7_takeUnits_70 (lv_at hl 6 rfl) ?_
          refine lv_icmp_ge (tgt := 85) hx hb d7_takeUnits_72 (by decide) (fun c_11 => ?_) (fun c_11 => ?_)
          · refine lv_iload hx hb d7_takeUnits_85 (lv_at hl 6 rfl) ?_
            refine lv_istore (lv' := [(9, .int z4), (8, .int 1), (7, .int ((6 * x1) + (nI j6))), (0, .ref (ad 20 0)), (1, .int x1), (2, .int x2), (3, .int x3), (4, .int z4), (5, .int (nI j5)), (6, .int (nI j6))]) hx hb d7_takeUnits_87 hl (by decide) rfl (fun ls hl => ?_)
            refine lv_iload hx hb d7_takeUnits_89 (lv_at hl 7 rfl) ?_
            refine lv_iload hx hb d7_takeUnits_91 (lv_at hl 0 rfl) ?_
            refine lv_isub hx hb d7_takeUnits_93 ?_
            refine lv_istore (lv' := [(4, .int (z4 - z4)), (9, .int z4), (8, .int 1), (7, .int ((6 * x1) + (nI j6))), (0, .ref (ad 20 0)), (1, .int x1), (2, .int x2), (3, .int x3), (5, .int (nI j5)), (6, .int (nI j6))]) hx hb d7_takeUnits_94 hl (by decide) rfl (fun ls hl => ?_)
            refine lv_aload_n hx hb d7_takeUnits_96 rfl (lv_at hl 4 rfl) ?_
            refine sr_get (v := .ref (ad 37 0)) hx hb hw hown hK hB 16 (hX 20 (by decide)) cf_20 us7 (by decide) fl_7_51 (rfl) d7_takeUnits_97 ?_
            refine lv_iload hx hb d7_takeUnits_100 (lv_at hl 3 rfl) ?_
            refine sr_iald (v := A 37 0 (6 * x1.toNatClampNeg + j6)) hx hb hK hB (hX 37 (by decide)) rfl rfl (by (have aj5 := nI_toInt (n := j5) (by omega)); (have aj6 := nI_toInt (n := j6) (by omega)); (have kc_1 := nle_i c_1); (have l0 : (0 : Int32).toInt = 0 := rfl); (have l36 : (36 : Int32).toInt = 36 := rfl);  exact ix6_in (x := x1) (j := j6) (by omega) (by omega) (by omega) (show _ < ((384 : Nat) : Int) by omega)) d7_takeUnits_102 (by (have aj5 := nI_toInt (n := j5) (by omega)); (have aj6 := nI_toInt (n := j6) (by omega)); (have kc_1 := nle_i c_1); (have l0 : (0 : Int32).toInt = 0 := rfl); (have l36 : (36 : Int32).toInt = 36 := rfl);  exact Eq.trans (congrArg (fun q => A 37 0 q) (ix6 (x := x1) (j := j6) (by omega) (by omega) (by omega))) rfl) ?_
            refine lv_iload hx hb d7_takeUnits_103 (lv_at hl 1 rfl) ?_
            refine lv_isub hx hb d7_takeUnits_105 ?_
            refine lv_istore (lv' := [(10, .int ((A 37 0 (6 * x1.toNatClampNeg + j6)) - z4)), (4, .int (z4 - z4)), (9, .int z4), (8, .int 1), (7, .int ((6 * x1) + (nI j6))), (0, .ref (ad 20 0)), (1, .int x1), (2, .int x2), (3, .int x3), (5, .int (nI j5)), (6, .int (nI j6))]) hx hb d7_takeUnits_106 hl (by decide) rfl (fun ls hl => ?_)
            refine lv_iload hx hb d7_takeUnits_108 (lv_at hl 0 rfl) ?_
            refine lv_if_le (tgt := 149) hx hb d7_takeUnits_110 (by decide) (fun c_12 => ?_) (fun c_12 => ?_)
            · refine lv_iinc (v := nI (j6 + 1)) (lv' := [(6, .int (nI (j6 + 1))), (10, .int ((A 37 0 (6 * x1.toNatClampNeg + j6)) - z4)), (4, .int (z4 - z4)), (9, .int z4), (8, .int 1), (7, .int ((6 * x1) + (nI j6))), (0, .ref (ad 20 0)), (1, .int x1), (2, .int x2), (3, .int x3), (5, .int (nI j5))]) hx hb d7_takeUnits_149 hl (k := 10) rfl (nI_1 j6) (by decide) rfl (fun ls hl => ?_)
              refine lv_goto (tgt := 9) hx hb d7_takeUnits_152 (by decide) ?_
              exact ih hB (z4 - z4) j5 (j6 + 1) (by (have aj5 := nI_toInt (n := j5) (by omega)); (have aj6 := nI_toInt (n := j6) (by omega)); (have kc_1 := nle_i c_1); (have l0 : (0 : Int32).toInt = 0 := rfl); (have l36 : (36 : Int32).toInt = 36 := rfl);  omega) (by (have aj5 := nI_toInt (n := j5) (by omega)); (have aj6 := nI_toInt (n := j6) (by omega)); (have kc_1 := nle_i c_1); (have l0 : (0 : Int32).toInt = 0 := rfl); (have l36 : (36 : Int32).toInt = 36 := rfl);  exact hL) (by (have aj5 := nI_toInt (n := j5) (by omega)); (have aj6 := nI_toInt (n := j6) (by omega)); (have kc_1 := nle_i c_1); (have l0 : (0 : Int32).toInt = 0 := rfl); (have l36 : (36 : Int32).toInt = 36 := rfl);  omega) (by (have aj5 := nI_toInt (n := j5) (by omega)); (have aj6 := nI_toInt (n := j6) (by omega)); (have kc_1 := nle_i c_1); (have l0 : (0 : Int32).toInt = 0 := rfl); (have l36 : (36 : Int32).toInt = 36 := rfl);  omega) (lv_sub hl [6, 7, 8, 9, 2, 10, 0] rfl) (by rw [if_neg c_1, if_pos c_2, if_neg c_7, if_pos c_11, if_pos c_12] at hO; exact hO)
            · refine lv_aload_n hx hb d7_takeUnits_113 rfl (lv_at hl 5 rfl) ?_
              refine sr_get (v := .ref (ad 37 0)) hx hb hw hown hK hB 16 (hX 20 (by decide)) cf_20 us7 (by decide) fl_7_51 (rfl) d7_takeUnits_114 ?_
              refine lv_bipush (v := 6) hx hb d7_takeUnits_117 (by decide) ?_
              refine lv_iload_n hx hb d7_takeUnits_119 rfl (lv_at hl 6 rfl) ?_
              refine lv_imul hx hb d7_takeUnits_120 ?_
              refine lv_iload hx hb d7_takeUnits_121 (lv_at hl 9 rfl) ?_
              refine lv_iadd hx hb d7_takeUnits_123 ?_
              refine lv_iload hx hb d7_takeUnits_124 (lv_at hl 0 rfl) ?_
              refine sr_iast hx hb hK hB (hX 37 (by decide)) rfl rfl (by (have aj5 := nI_toInt (n := j5) (by omega)); (have aj6 := nI_toInt (n := j6) (by omega)); (have kc_1 := nle_i c_1); (have l0 : (0 : Int32).toInt = 0 := rfl); (have l36 : (36 : Int32).toInt = 36 := rfl);  exact ix6_in (x := x1) (j := j5) (by omega) (by omega) (by omega) (show _ < ((384 : Nat) : Int) by omega)) d7_takeUnits_126 (fun H locs hB => ?_)
              rw [show ((6 * x1) + (nI j5)).toNatClampNeg = 6 * x1.toNatClampNeg + j5 from by (have aj5 := nI_toInt (n := j5) (by omega)); (have aj6 := nI_toInt (n := j6) (by omega)); (have kc_1 := nle_i c_1); (have l0 : (0 : Int32).toInt = 0 := rfl); (have l36 : (36 : Int32).toInt = 36 := rfl);  exact ix6 (x := x1) (j := j5) (by omega) (by omega) (by omega)] at hB
              refine lv_aload_n hx hb d7_takeUnits_127 rfl (lv_at hl 5 rfl) ?_
              refine sr_get (v := .ref (ad 38 0)) hx hb hw hown hK hB 17 (hX 20 (by decide)) cf_20 us7 (by decide) fl_7_54 (rfl) d7_takeUnits_128 ?_
              refine lv_bipush (v := 6) hx hb d7_takeUnits_131 (by decide) ?_
              refine lv_iload_n hx hb d7_takeUnits_133 rfl (lv_at hl 6 rfl) ?_
              refine lv_imul hx hb d7_takeUnits_134 ?_
              refine lv_iload hx hb d7_takeUnits_135 (lv_at hl 9 rfl) ?_
              refine lv_iadd hx hb d7_takeUnits_137 ?_
              refine lv_aload_n hx hb d7_takeUnits_138 rfl (lv_at hl 5 rfl) ?_
              refine sr_get (v := .ref (ad 38 0)) hx hb hw hown hK hB 17 (hX 20 (by decide)) cf_20 us7 (by decide) fl_7_54 (rfl) d7_takeUnits_139 ?_
              refine lv_iload hx hb d7_takeUnits_142 (lv_at hl 4 rfl) ?_
              refine sr_iald (v := A 38 0 (6 * x1.toNatClampNeg + j6)) hx hb hK hB (hX 38 (by decide)) rfl rfl (by (have aj5 := nI_toInt (n := j5) (by omega)); (have aj6 := nI_toInt (n := j6) (by omega)); (have kc_1 := nle_i c_1); (have l0 : (0 : Int32).toInt = 0 := rfl); (have l36 : (36 : Int32).toInt = 36 := rfl);  exact ix6_in (x := x1) (j := j6) (by omega) (by omega) (by omega) (show _ < ((384 : Nat) : Int) by omega)) d7_takeUnits_144 (by (have aj5 := nI_toInt (n := j5) (by omega)); (have aj6 := nI_toInt (n := j6) (by omega)); (have kc_1 := nle_i c_1); (have l0 : (0 : Int32).toInt = 0 := rfl); (have l36 : (36 : Int32).toInt = 36 := rfl);  exact Eq.trans (congrArg (fun q => (up3 A 37 0 (6 * x1.toNatClampNeg + j5) ((A 37 0 (6 * x1.toNatClampNeg + j6)) - z4)) 38 0 q) (ix6 (x := x1) (j := j6) (by omega) (by omega) (by omega))) rfl) ?_
              refine sr_iast hx hb hK hB (hX 38 (by decide)) rfl rfl (by (have aj5 := nI_toInt (n := j5) (by omega)); (have aj6 := nI_toInt (n := j6) (by omega)); (have kc_1 := nle_i c_1); (have l0 : (0 : Int32).toInt = 0 := rfl); (have l36 : (36 : Int32).toInt = 36 := rfl);  exact ix6_in (x := x1) (j := j5) (by omega) (by omega) (by omega) (show _ < ((384 : Nat) : Int) by omega)) d7_takeUnits_145 (fun H locs hB => ?_)
              rw [show ((6 * x1) + (nI j5)).toNatClampNeg = 6 * x1.toNatClampNeg + j5 from by (have aj5 := nI_toInt (n := j5) (by omega)); (have aj6 := nI_toInt (n := j6) (by omega)); (have kc_1 := nle_i c_1); (have l0 : (0 : Int32).toInt = 0 := rfl); (have l36 : (36 : Int32).toInt = 36 := rfl);  exact ix6 (x := x1) (j := j5) (by omega) (by omega) (by omega)] at hB
              refine lv_iinc (v := nI (j5 + 1)) (lv' := [(5, .int (nI (j5 + 1))), (10, .int ((A 37 0 (6 * x1.toNatClampNeg + j6)) - z4)), (4, .int (z4 - z4)), (9, .int z4), (8, .int 1), (7, .int ((6 * x1) + (nI j6))), (0, .ref (ad 20 0)), (1, .int x1), (2, .int x2), (3, .int x3), (6, .int (nI j6))]) hx hb d7_takeUnits_146 hl (k := 9) rfl (nI_1 j5) (by decide) rfl (fun ls hl => ?_)
              refine lv_iinc (v := nI (j6 + 1)) (lv' := [(6, .int (nI (j6 + 1))), (5, .int (nI (j5 + 1))), (10, .int ((A 37 0 (6 * x1.toNatClampNeg + j6)) - z4)), (4, .int (z4 - z4)), (9, .int z4), (8, .int 1), (7, .int ((6 * x1) + (nI j6))), (0, .ref (ad 20 0)), (1, .int x1), (2, .int x2), (3, .int x3)]) hx hb d7_takeUnits_149 hl (k := 10) rfl (nI_1 j6) (by decide) rfl (fun ls hl => ?_)
              refine lv_goto (tgt := 9) hx hb d7_takeUnits_152 (by decide) ?_
              exact ih hB (z4 - z4) (j5 + 1) (j6 + 1) (by (have aj5 := nI_toInt (n := j5) (by omega)); (have aj6 := nI_toInt (n := j6) (by omega)); (have kc_1 := nle_i c_1); (have l0 : (0 : Int32).toInt = 0 := rfl); (have l36 : (36 : Int32).toInt = 36 := rfl);  omega) (by (have aj5 := nI_toInt (n := j5) (by omega)); (have aj6 := nI_toInt (n := j6) (by omega)); (have kc_1 := nle_i c_1); (have l0 : (0 : Int32).toInt = 0 := rfl); (have l36 : (36 : Int32).toInt = 36 := rfl);  exact hL) (by (have aj5 := nI_toInt (n := j5) (by omega)); (have aj6 := nI_toInt (n := j6) (by omega)); (have kc_1 := nle_i c_1); (have l0 : (0 : Int32).toInt = 0 := rfl); (have l36 : (36 : Int32).toInt = 36 := rfl);  omega) (by (have aj5 := nI_toInt (n := j5) (by omega)); (have aj6 := nI_toInt (n := j6) (by omega)); (have kc_1 := nle_i c_1); (have l0 : (0 : Int32).toInt = 0 := rfl); (have l36 : (36 : Int32).toInt = 36 := rfl);  omega) (lv_sub hl [7, 8, 9, 10, 3, 1, 0] rfl) (by rw [if_neg c_1, if_pos c_2, if_neg c_7, if_pos c_11, if_neg c_12] at hO; exact hO)
          · refine lv_aload_n hx hb d7_takeUnits_75 rfl (lv_at hl 2 rfl) ?_
            refine sr_get (v := .ref (ad 37 0)) hx hb hw hown hK hB 16 (hX 20 (by decide)) cf_20 us7 (by decide) fl_7_51 (rfl) d7_takeUnits_76 ?_
            refine lv_iload hx hb d7_takeUnits_79 (lv_at hl 1 rfl) ?_
            refine sr_iald (v := A 37 0 (6 * x1.toNatClampNeg + j6)) hx hb hK hB (hX 37 (by decide)) rfl rfl (by (have aj5 := nI_toInt (n := j5) (by omega)); (have aj6 := nI_toInt (n := j6) (by omega)); (have kc_1 := nle_i c_1); (have l0 : (0 : Int32).toInt = 0 := rfl); (have l36 : (36 : Int32).toInt = 36 := rfl);  exact ix6_in (x := x1) (j := j6) (by omega) (by omega) (by omega) (show _ < ((384 : Nat) : Int) by omega)) d7_takeUnits_81 (by (have aj5 := nI_toInt (n := j5) (by omega)); (have aj6 := nI_toInt (n := j6) (by omega)); (have kc_1 := nle_i c_1); (have l0 : (0 : Int32).toInt = 0 := rfl); (have l36 : (36 : Int32).toInt = 36 := rfl);  exact Eq.trans (congrArg (fun q => A 37 0 q) (ix6 (x := x1) (j := j6) (by omega) (by omega) (by omega))) rfl) ?_
            refine lv_goto (tgt := 87) hx hb d7_takeUnits_82 (by decide) ?_
            refine lv_istore (lv' := [(9, .int (A 37 0 (6 * x1.toNatClampNeg + j6))), (8, .int 1), (7, .int ((6 * x1) + (nI j6))), (0, .ref (ad 20 0)), (1, .int x1), (2, .int x2), (3, .int x3), (4, .int z4), (5, .int (nI j5)), (6, .int (nI j6))]) hx hb d7_takeUnits_87 hl (by decide) rfl (fun ls hl => ?_)
            refine lv_iload hx hb d7_takeUnits_89 (lv_at hl 7 rfl) ?_
            refine lv_iload hx hb d7_takeUnits_91 (lv_at hl 0 rfl) ?_
            refine lv_isub hx hb d7_takeUnits_93 ?_
            refine lv_istore (lv' := [(4, .int (z4 - (A 37 0 (6 * x1.toNatClampNeg + j6)))), (9, .int (A 37 0 (6 * x1.toNatClampNeg + j6))), (8, .int 1), (7, .int ((6 * x1) + (nI j6))), (0, .ref (ad 20 0)), (1, .int x1), (2, .int x2), (3, .int x3), (5, .int (nI j5)), (6, .int (nI j6))]) hx hb d7_takeUnits_94 hl (by decide) rfl (fun ls hl => ?_)
            refine lv_aload_n hx hb d7_takeUnits_96 rfl (lv_at hl 4 rfl) ?_
            refine sr_get (v := .ref (ad 37 0)) hx hb hw hown hK hB 16 (hX 20 (by decide)) cf_20 us7 (by decide) fl_7_51 (rfl) d7_takeUnits_97 ?_
            refine lv_iload hx hb d7_takeUnits_100 (lv_at hl 3 rfl) ?_
            refine sr_iald (v := A 37 0 (6 * x1.toNatClampNeg + j6)) hx hb hK hB (hX 37 (by decide)) rfl rfl (by (have aj5 := nI_toInt (n := j5) (by omega)); (have aj6 := nI_toInt (n := j6) (by omega)); (have kc_1 := nle_i c_1); (have l0 : (0 : Int32).toInt = 0 := rfl); (have l36 : (36 : Int32).toInt = 36 := rfl);  exact ix6_in (x := x1) (j := j6) (by omega) (by omega) (by omega) (show _ < ((384 : Nat) : Int) by omega)) d7_takeUnits_102 (by (have aj5 := nI_toInt (n := j5) (by omega)); (have aj6 := nI_toInt (n := j6) (by omega)); (have kc_1 := nle_i c_1); (have l0 : (0 : Int32).toInt = 0 := rfl); (have l36 : (36 : Int32).toInt = 36 := rfl);  exact Eq.trans (congrArg (fun q => A 37 0 q) (ix6 (x := x1) (j := j6) (by omega) (by omega) (by omega))) rfl) ?_
            refine lv_iload hx hb d7_takeUnits_103 (lv_at hl 1 rfl) ?_
            refine lv_isub hx hb d7_takeUnits_105 ?_
            refine lv_istore (lv' := [(10, .int ((A 37 0 (6 * x1.toNatClampNeg + j6)) - (A 37 0 (6 * x1.toNatClampNeg + j6)))), (4, .int (z4 - (A 37 0 (6 * x1.toNatClampNeg + j6)))), (9, .int (A 37 0 (6 * x1.toNatClampNeg + j6))), (8, .int 1), (7, .int ((6 * x1) + (nI j6))), (0, .ref (ad 20 0)), (1, .int x1), (2, .int x2), (3, .int x3), (5, .int (nI j5)), (6, .int (nI j6))]) hx hb d7_takeUnits_106 hl (by decide) rfl (fun ls hl => ?_)
            refine lv_iload hx hb d7_takeUnits_108 (lv_at hl 0 rfl) ?_
            refine lv_if_le (tgt := 149) hx hb d7_takeUnits_110 (by decide) (fun c_13 => ?_) (fun c_13 => ?_)
            · refine lv_iinc (v := nI (j6 + 1)) (lv' := [(6, .int (nI (j6 + 1))), (10, .int ((A 37 0 (6 * x1.toNatClampNeg + j6)) - (A 37 0 (6 * x1.toNatClampNeg + j6)))), (4, .int (z4 - (A 37 0 (6 * x1.toNatClampNeg + j6)))), (9, .int (A 37 0 (6 * x1.toNatClampNeg + j6))), (8, .int 1), (7, .int ((6 * x1) + (nI j6))), (0, .ref (ad 20 0)), (1, .int x1), (2, .int x2), (3, .int x3), (5, .int (nI j5))]) hx hb d7_takeUnits_149 hl (k := 10) rfl (nI_1 j6) (by decide) rfl (fun ls hl => ?_)
              refine lv_goto (tgt := 9) hx hb d7_takeUnits_152 (by decide) ?_
              exact ih hB (z4 - (A 37 0 (6 * x1.toNatClampNeg + j6))) j5 (j6 + 1) (by (have aj5 := nI_toInt (n := j5) (by omega)); (have aj6 := nI_toInt (n := j6) (by omega)); (have kc_1 := nle_i c_1); (have l0 : (0 : Int32).toInt = 0 := rfl); (have l36 : (36 : Int32).toInt = 36 := rfl);  omega) (by (have aj5 := nI_toInt (n := j5) (by omega)); (have aj6 := nI_toInt (n := j6) (by omega)); (have kc_1 := nle_i c_1); (have l0 : (0 : Int32).toInt = 0 := rfl); (have l36 : (36 : Int32).toInt = 36 := rfl);  exact hL) (by (have aj5 := nI_toInt (n := j5) (by omega)); (have aj6 := nI_toInt (n := j6) (by omega)); (have kc_1 := nle_i c_1); (have l0 : (0 : Int32).toInt = 0 := rfl); (have l36 : (36 : Int32).toInt = 36 := rfl);  omega) (by (have aj5 := nI_toInt (n := j5) (by omega)); (have aj6 := nI_toInt (n := j6) (by omega)); (have kc_1 := nle_i c_1); (have l0 : (0 : Int32).toInt = 0 := rfl); (have l36 : (36 : Int32).toInt = 36 := rfl);  omega) (lv_sub hl [6, 7, 8, 9, 2, 10, 0] rfl) (by rw [if_neg c_1, if_pos c_2, if_neg c_7, if_neg c_11, if_pos c_13] at hO; exact hO)
            · refine lv_aload_n hx hb d7_takeUnits_113 rfl (lv_at hl 5 rfl) ?_
              refine sr_get (v := .ref (ad 37 0)) hx hb hw hown hK hB 16 (hX 20 (by decide)) cf_20 us7 (by decide) fl_7_51 (rfl) d7_takeUnits_114 ?_
              refine lv_bipush (v := 6) hx hb d7_takeUnits_117 (by decide) ?_
              refine lv_iload_n hx hb d7_takeUnits_119 rfl (lv_at hl 6 rfl) ?_
              refine lv_imul hx hb d7_takeUnits_120 ?_
              refine lv_iload hx hb d7_takeUnits_121 (lv_at hl 9 rfl) ?_
              refine lv_iadd hx hb d7_takeUnits_123 ?_
              refine lv_iload hx hb d7_takeUnits_124 (lv_at hl 0 rfl) ?_
              refine sr_iast hx hb hK hB (hX 37 (by decide)) rfl rfl (by (have aj5 := nI_toInt (n := j5) (by omega)); (have aj6 := nI_toInt (n := j6) (by omega)); (have kc_1 := nle_i c_1); (have l0 : (0 : Int32).toInt = 0 := rfl); (have l36 : (36 : Int32).toInt = 36 := rfl);  exact ix6_in (x := x1) (j := j5) (by omega) (by omega) (by omega) (show _ < ((384 : Nat) : Int) by omega)) d7_takeUnits_126 (fun H locs hB => ?_)
              rw [show ((6 * x1) + (nI j5)).toNatClampNeg = 6 * x1.toNatClampNeg + j5 from by (have aj5 := nI_toInt (n := j5) (by omega)); (have aj6 := nI_toInt (n := j6) (by omega)); (have kc_1 := nle_i c_1); (have l0 : (0 : Int32).toInt = 0 := rfl); (have l36 : (36 : Int32).toInt = 36 := rfl);  exact ix6 (x := x1) (j := j5) (by omega) (by omega) (by omega)] at hB
              refine lv_aload_n hx hb d7_takeUnits_127 rfl (lv_at hl 5 rfl) ?_
              refine sr_get (v := .ref (ad 38 0)) hx hb hw hown hK hB 17 (hX 20 (by decide)) cf_20 us7 (by decide) fl_7_54 (rfl) d7_takeUnits_128 ?_
              refine lv_bipush (v := 6) hx hb d7_takeUnits_131 (by decide) ?_
              refine lv_iload_n hx hb d7_takeUnits_133 rfl (lv_at hl 6 rfl) ?_
              refine lv_imul hx hb d7_takeUnits_134 ?_
              refine lv_iload hx hb d7_takeUnits_135 (lv_at hl 9 rfl) ?_
              refine lv_iadd hx hb d7_takeUnits_137 ?_
              refine lv_aload_n hx hb d7_takeUnits_138 rfl (lv_at hl 5 rfl) ?_
              refine sr_get (v := .ref (ad 38 0)) hx hb hw hown hK hB 17 (hX 20 (by decide)) cf_20 us7 (by decide) fl_7_54 (rfl) d7_takeUnits_139 ?_
              refine lv_iload hx hb d7_takeUnits_142 (lv_at hl 4 rfl) ?_
              refine sr_iald (v := A 38 0 (6 * x1.toNatClampNeg + j6)) hx hb hK hB (hX 38 (by decide)) rfl rfl (by (have aj5 := nI_toInt (n := j5) (by omega)); (have aj6 := nI_toInt (n := j6) (by omega)); (have kc_1 := nle_i c_1); (have l0 : (0 : Int32).toInt = 0 := rfl); (have l36 : (36 : Int32).toInt = 36 := rfl);  exact ix6_in (x := x1) (j := j6) (by omega) (by omega) (by omega) (show _ < ((384 : Nat) : Int) by omega)) d7_takeUnits_144 (by (have aj5 := nI_toInt (n := j5) (by omega)); (have aj6 := nI_toInt (n := j6) (by omega)); (have kc_1 := nle_i c_1); (have l0 : (0 : Int32).toInt = 0 := rfl); (have l36 : (36 : Int32).toInt = 36 := rfl);  exact Eq.trans (congrArg (fun q => (up3 A 37 0 (6 * x1.toNatClampNeg + j5) ((A 37 0 (6 * x1.toNatClampNeg + j6)) - (A 37 0 (6 * x1.toNatClampNeg + j6)))) 38 0 q) (ix6 (x := x1) (j := j6) (by omega) (by omega) (by omega))) rfl) ?_
              refine sr_iast hx hb hK hB (hX 38 (by decide)) rfl rfl (by (have aj5 := nI_toInt (n := j5) (by omega)); (have aj6 := nI_toInt (n := j6) (by omega)); (have kc_1 := nle_i c_1); (have l0 : (0 : Int32).toInt = 0 := rfl); (have l36 : (36 : Int32).toInt = 36 := rfl);  exact ix6_in (x := x1) (j := j5) (by omega) (by omega) (by omega) (show _ < ((384 : Nat) : Int) by omega)) d7_takeUnits_145 (fun H locs hB => ?_)
              rw [show ((6 * x1) + (nI j5)).toNatClampNeg = 6 * x1.toNatClampNeg + j5 from by (have aj5 := nI_toInt (n := j5) (by omega)); (have aj6 := nI_toInt (n := j6) (by omega)); (have kc_1 := nle_i c_1); (have l0 : (0 : Int32).toInt = 0 := rfl); (have l36 : (36 : Int32).toInt = 36 := rfl);  exact ix6 (x := x1) (j := j5) (by omega) (by omega) (by omega)] at hB
              refine lv_iinc (v := nI (j5 + 1)) (lv' := [(5, .int (nI (j5 + 1))), (10, .int ((A 37 0 (6 * x1.toNatClampNeg + j6)) - (A 37 0 (6 * x1.toNatClampNeg + j6)))), (4, .int (z4 - (A 37 0 (6 * x1.toNatClampNeg + j6)))), (9, .int (A 37 0 (6 * x1.toNatClampNeg + j6))), (8, .int 1), (7, .int ((6 * x1) + (nI j6))), (0, .ref (ad 20 0)), (1, .int x1), (2, .int x2), (3, .int x3), (6, .int (nI j6))]) hx hb d7_takeUnits_146 hl (k := 9) rfl (nI_1 j5) (by decide) rfl (fun ls hl => ?_)
              refine lv_iinc (v := nI (j6 + 1)) (lv' := [(6, .int (nI (j6 + 1))), (5, .int (nI (j5 + 1))), (10, .int ((A 37 0 (6 * x1.toNatClampNeg + j6)) - (A 37 0 (6 * x1.toNatClampNeg + j6)))), (4, .int (z4 - (A 37 0 (6 * x1.toNatClampNeg + j6)))), (9, .int (A 37 0 (6 * x1.toNatClampNeg + j6))), (8, .int 1), (7, .int ((6 * x1) + (nI j6))), (0, .ref (ad 20 0)), (1, .int x1), (2, .int x2), (3, .int x3)]) hx hb d7_takeUnits_149 hl (k := 10) rfl (nI_1 j6) (by decide) rfl (fun ls hl => ?_)
              refine lv_goto (tgt := 9) hx hb d7_takeUnits_152 (by decide) ?_
              exact ih hB (z4 - (A 37 0 (6 * x1.toNatClampNeg + j6))) (j5 + 1) (j6 + 1) (by (have aj5 := nI_toInt (n := j5) (by omega)); (have aj6 := nI_toInt (n := j6) (by omega)); (have kc_1 := nle_i c_1); (have l0 : (0 : Int32).toInt = 0 := rfl); (have l36 : (36 : Int32).toInt = 36 := rfl);  omega) (by (have aj5 := nI_toInt (n := j5) (by omega)); (have aj6 := nI_toInt (n := j6) (by omega)); (have kc_1 := nle_i c_1); (have l0 : (0 : Int32).toInt = 0 := rfl); (have l36 : (36 : Int32).toInt = 36 := rfl);  exact hL) (by (have aj5 := nI_toInt (n := j5) (by omega)); (have aj6 := nI_toInt (n := j6) (by omega)); (have kc_1 := nle_i c_1); (have l0 : (0 : Int32).toInt = 0 := rfl); (have l36 : (36 : Int32).toInt = 36 := rfl);  omega) (by (have aj5 := nI_toInt (n := j5) (by omega)); (have aj6 := nI_toInt (n := j6) (by omega)); (have kc_1 := nle_i c_1); (have l0 : (0 : Int32).toInt = 0 := rfl); (have l36 : (36 : Int32).toInt = 36 := rfl);  omega) (lv_sub hl [7, 8, 9, 10, 3, 1, 0] rfl) (by rw [if_neg c_1, if_pos c_2, if_neg c_7, if_neg c_11, if_neg c_13] at hO; exact hO)
set_option maxRecDepth 100000 in
set_option maxHeartbeats 4000000 in
theorem k7_takeUnits_0 {p : Program} {l : Launch} {e : Env} {s : State} {m : MethodId} {args : Array Value} {below : List Frame} {meth : Method} {c : Code} {D : va_G} {aC : Nat → ClassId} {ad : Nat → Nat → Nat} {X : Nat → Nat → Prop} {S A : sS} {G : sG} {H : Heap} {locs : List Loc} (C0 : s_C p s m args meth c b7_takeUnits 11 R7 none D aC) (hB : s_B D aC ad X (s_N ad X) S A G s.heap H locs) (hX : xR X) (x1 : Int32) (x2 : Int32) (x3 : Int32) (hx1 : 0 ≤ x1.toInt ∧ x1.toInt < 64) (hlo : ∀ i, i < 64 → 0 ≤ (A 36 0 i).toInt ∧ (A 36 0 i).toInt ≤ 6) {ls : Array Slot} (hl : lv_has ls 11 [(0, .ref (ad 20 0)), (1, .int x1), (2, .int x2), (3, .int x3)]) {o : sS × sS} (hO : O7_takeUnits S A G x1 x2 x3 = o) : W p l e (rmk 0) s m args below meth c H locs 0 0 (MQ below (s_Qv D aC ad X G o) args s 0 0 (s_N ad X)) (F0 m 0 ls []) := by
  obtain ⟨hx, hb, hml, hown, hw, hK, hr, hlocks⟩ := id C0
  unfold O7_takeUnits at hO
  refine lv_iload_n hx hb d7_takeUnits_0 rfl (lv_at hl 2 rfl) ?_
  refine lv_istore (lv' := [(4, .int x2), (0, .ref (ad 20 0)), (1, .int x1), (2, .int x2), (3, .int x3)]) hx hb d7_takeUnits_1 hl (by decide) rfl (fun ls hl => ?_)
  refine lv_iconst (v := 0) hx hb d7_takeUnits_3 (by decide) ?_
  refine lv_istore (lv' := [(5, .int 0), (4, .int x2), (0, .ref (ad 20 0)), (1, .int x1), (2, .int x2), (3, .int x3)]) hx hb d7_takeUnits_4 hl (by decide) rfl (fun ls hl => ?_)
  refine lv_iconst (v := 0) hx hb d7_takeUnits_6 (by decide) ?_
  refine lv_istore (lv' := [(6, .int 0), (5, .int 0), (4, .int x2), (0, .ref (ad 20 0)), (1, .int x1), (2, .int x2), (3, .int x3)]) hx hb d7_takeUnits_7 hl (by decide) rfl (fun ls hl => ?_)
  exact k7_takeUnits_9 C0 hX x1 x2 x3 7 hB x2 0 0 (by  omega) (by  exact (at_i hlo hx1).2) (by  omega) (by  omega) (lv_sub hl [3, 4, 5, 6, 2, 1, 0] rfl) (hO)
theorem hd7_takeUnits : y7_takeUnits.cls = R7 ∧ y7_takeUnits.cls ≠ "java/lang/invoke/MethodHandle" ∧ y7_takeUnits.cls ≠ "java/lang/invoke/VarHandle" ∧ (parseMethodDescriptor y7_takeUnits.desc).map (fun d => d.parameters.length) = some 3 := ⟨rfl, by decide, by decide, by decide +kernel⟩
theorem m7_takeUnits {l : Launch} {D : va_G} {aC : Nat → ClassId} {ad : Nat → Nat → Nat} {X : Nat → Nat → Prop} {S A : sS} {G : sG} (hX : xR X) (x1 : Int32) (x2 : Int32) (x3 : Int32) (hx1 : 0 ≤ x1.toInt ∧ x1.toInt < 64) (hlo : ∀ i, i < 64 → 0 ≤ (A 36 0 i).toInt ∧ (A 36 0 i).toInt ≤ 6) : Met l y7_takeUnits (.code y7_takeUnits b7_takeUnits 11 none :: wall) (rmk 0) (s_Pc [.ref (ad 20 0), .int x1, .int x2, .int x3] D aC ad X S A G) (s_Qv D aC ad X G (O7_takeUnits S A G x1 x2 x3)) 0 0 (s_N ad X) :=
  s_met (by decide) rfl (Nat.le_of_ble_eq_true rfl) (fun p e s m args below meth c C0 hB ls hl => k7_takeUnits_0 C0 hB hX x1 x2 x3 hx1 hlo hl rfl)

def O7_note (S A : sS) (G : sG) (x1 : Int32) (x2 : Int32) (x3 : Int32) (x4 : Int32) : sS × sS := ((up3 (up3 S 20 0 34 ((S 20 0 34) + 1)) 20 0 7 (S 20 0 0)), (up3 (up3 (up3 (up3 (up3 (up3 A 56 0 (6 * (S 20 0 34).toNatClampNeg) x1) 56 0 (6 * (S 20 0 34).toNatClampNeg + 1) (S 20 0 0)) 56 0 (6 * (S 20 0 34).toNatClampNeg + 2) (S 20 0 6)) 56 0 (6 * (S 20 0 34).toNatClampNeg + 3) x2) 56 0 (6 * (S 20 0 34).toNatClampNeg + 4) x3) 56 0 (6 * (S 20 0 34).toNatClampNeg + 5) x4))
set_option maxRecDepth 100000 in
set_option maxHeartbeats 4000000 in
theorem k7_note_0 {p : Program} {l : Launch} {e : Env} {s : State} {m : MethodId} {args : Array Value} {below : List Frame} {meth : Method} {c : Code} {D : va_G} {aC : Nat → ClassId} {ad : Nat → Nat → Nat} {X : Nat → Nat → Prop} {S A : sS} {G : sG} {H : Heap} {locs : List Loc} (C0 : s_C p s m args meth c b7_note 5 R7 none D aC) (hB : s_B D aC ad X (s_N ad X) S A G s.heap H locs) (hX : xR X) (x1 : Int32) (x2 : Int32) (x3 : Int32) (x4 : Int32) (hen : 0 ≤ (S 20 0 34).toInt ∧ (S 20 0 34).toInt < 300) {ls : Array Slot} (hl : lv_has ls 5 [(0, .ref (ad 20 0)), (1, .int x1), (2, .int x2), (3, .int x3), (4, .int x4)]) {o : sS × sS} (hO : O7_note S A G x1 x2 x3 x4 = o) : W p l e (rmk 0) s m args below meth c H locs 0 0 (MQ below (s_Qv D aC ad X G o) args s 0 0 (s_N ad X)) (F0 m 0 ls []) := by
  obtain ⟨hx, hb, hml, hown, hw, hK, hr, hlocks⟩ := id C0
  unfold O7_note at hO
  refine lv_aload_n hx hb d7_note_0 rfl (lv_at hl 0 rfl) ?_
  refine sr_get (v := .ref (ad 56 0)) hx hb hw hown hK hB 35 (hX 20 (by decide)) cf_20 us7 (by decide) fl_7_84 (rfl) d7_note_1 ?_
  refine lv_bipush (v := 6) hx hb d7_note_4 (by decide) ?_
  refine lv_aload_n hx hb d7_note_6 rfl (lv_at hl 0 rfl) ?_
  refine sr_get (v := .int (S 20 0 34)) hx hb hw hown hK hB 34 (hX 20 (by decide)) cf_20 us7 (by decide) fl_7_130 (rfl) d7_note_7 ?_
  refine lv_imul hx hb d7_note_10 ?_
  refine lv_iload_n hx hb d7_note_11 rfl (lv_at hl 1 rfl) ?_
  refine sr_iast hx hb hK hB (hX 56 (by decide)) rfl rfl (by  exact ix6z_in (x := (S 20 0 34)) (by omega) (by omega) (show _ < ((1800 : Nat) : Int) by omega)) d7_note_12 (fun H locs hB => ?_)
  rw [show (6 * (S 20 0 34)).toNatClampNeg = 6 * (S 20 0 34).toNatClampNeg from by  exact ix6z (x := (S 20 0 34)) (by omega) (by omega)] at hB
  refine lv_aload_n hx hb d7_note_13 rfl (lv_at hl 0 rfl) ?_
  refine sr_get (v := .ref (ad 56 0)) hx hb hw hown hK hB 35 (hX 20 (by decide)) cf_20 us7 (by decide) fl_7_84 (rfl) d7_note_14 ?_
  refine lv_bipush (v := 6) hx hb d7_note_17 (by decide) ?_
  refine lv_aload_n hx hb d7_note_19 rfl (lv_at hl 0 rfl) ?_
  refine sr_get (v := .int (S 20 0 34)) hx hb hw hown hK hB 34 (hX 20 (by decide)) cf_20 us7 (by decide) fl_7_130 (rfl) d7_note_20 ?_
  refine lv_imul hx hb d7_note_23 ?_
  refine lv_iconst (v := 1) hx hb d7_note_24 (by decide) ?_
  refine lv_iadd hx hb d7_note_25 ?_
  refine lv_aload_n hx hb d7_note_26 rfl (lv_at hl 0 rfl) ?_
  refine sr_get (v := .int (S 20 0 0)) hx hb hw hown hK hB 0 (hX 20 (by decide)) cf_20 us7 (by decide) fl_7_100 (rfl) d7_note_27 ?_
  refine sr_iast hx hb hK hB (hX 56 (by decide)) rfl rfl (by  exact ix6_in (x := (S 20 0 34)) (j := 1) (by omega) (by omega) (by omega) (show _ < ((1800 : Nat) : Int) by omega)) d7_note_30 (fun H locs hB => ?_)
  rw [show ((6 * (S 20 0 34)) + 1).toNatClampNeg = 6 * (S 20 0 34).toNatClampNeg + 1 from by  exact ix6 (x := (S 20 0 34)) (j := 1) (by omega) (by omega) (by omega)] at hB
  refine lv_aload_n hx hb d7_note_31 rfl (lv_at hl 0 rfl) ?_
  refine sr_get (v := .ref (ad 56 0)) hx hb hw hown hK hB 35 (hX 20 (by decide)) cf_20 us7 (by decide) fl_7_84 (rfl) d7_note_32 ?_
  refine lv_bipush (v := 6) hx hb d7_note_35 (by decide) ?_
  refine lv_aload_n hx hb d7_note_37 rfl (lv_at hl 0 rfl) ?_
  refine sr_get (v := .int (S 20 0 34)) hx hb hw hown hK hB 34 (hX 20 (by decide)) cf_20 us7 (by decide) fl_7_130 (rfl) d7_note_38 ?_
  refine lv_imul hx hb d7_note_41 ?_
  refine lv_iconst (v := 2) hx hb d7_note_42 (by decide) ?_
  refine lv_iadd hx hb d7_note_43 ?_
  refine lv_aload_n hx hb d7_note_44 rfl (lv_at hl 0 rfl) ?_
  refine sr_get (v := .int (S 20 0 6)) hx hb hw hown hK hB 6 (hX 20 (by decide)) cf_20 us7 (by decide) fl_7_26 (rfl) d7_note_45 ?_
  refine sr_iast hx hb hK hB (hX 56 (by decide)) rfl rfl (by  exact ix6_in (x := (S 20 0 34)) (j := 2) (by omega) (by omega) (by omega) (show _ < ((1800 : Nat) : Int) by omega)) d7_note_48 (fun H locs hB => ?_)
  rw [show ((6 * (S 20 0 34)) + 2).toNatClampNeg = 6 * (S 20 0 34).toNatClampNeg + 2 from by  exact ix6 (x := (S 20 0 34)) (j := 2) (by omega) (by omega) (by omega)] at hB
  refine lv_aload_n hx hb d7_note_49 rfl (lv_at hl 0 rfl) ?_
  refine sr_get (v := .ref (ad 56 0)) hx hb hw hown hK hB 35 (hX 20 (by decide)) cf_20 us7 (by decide) fl_7_84 (rfl) d7_note_50 ?_
  refine lv_bipush (v := 6) hx hb d7_note_53 (by decide) ?_
  refine lv_aload_n hx hb d7_note_55 rfl (lv_at hl 0 rfl) ?_
  refine sr_get (v := .int (S 20 0 34)) hx hb hw hown hK hB 34 (hX 20 (by decide)) cf_20 us7 (by decide) fl_7_130 (rfl) d7_note_56 ?_
  refine lv_imul hx hb d7_note_59 ?_
  refine lv_iconst (v := 3) hx hb d7_note_60 (by decide) ?_
  refine lv_iadd hx hb d7_note_61 ?_
  refine lv_iload_n hx hb d7_note_62 rfl (lv_at hl 2 rfl) ?_
  refine sr_iast hx hb hK hB (hX 56 (by decide)) rfl rfl (by  exact ix6_in (x := (S 20 0 34)) (j := 3) (by omega) (by omega) (by omega) (show _ < ((1800 : Nat) : Int) by omega)) d7_note_63 (fun H locs hB => ?_)
  rw [show ((6 * (S 20 0 34)) + 3).toNatClampNeg = 6 * (S 20 0 34).toNatClampNeg + 3 from by  exact ix6 (x := (S 20 0 34)) (j := 3) (by omega) (by omega) (by omega)] at hB
  refine lv_aload_n hx hb d7_note_64 rfl (lv_at hl 0 rfl) ?_
  refine sr_get (v := .ref (ad 56 0)) hx hb hw hown hK hB 35 (hX 20 (by decide)) cf_20 us7 (by decide) fl_7_84 (rfl) d7_note_65 ?_
  refine lv_bipush (v := 6) hx hb d7_note_68 (by decide) ?_
  refine lv_aload_n hx hb d7_note_70 rfl (lv_at hl 0 rfl) ?_
  refine sr_get (v := .int (S 20 0 34)) hx hb hw hown hK hB 34 (hX 20 (by decide)) cf_20 us7 (by decide) fl_7_130 (rfl) d7_note_71 ?_
  refine lv_imul hx hb d7_note_74 ?_
  refine lv_iconst (v := 4) hx hb d7_note_75 (by decide) ?_
  refine lv_iadd hx hb d7_note_76 ?_
  refine lv_iload_n hx hb d7_note_77 rfl (lv_at hl 3 rfl) ?_
  refine sr_iast hx hb hK hB (hX 56 (by decide)) rfl rfl (by  exact ix6_in (x := (S 20 0 34)) (j := 4) (by omega) (by omega) (by omega) (show _ < ((1800 : Nat) : Int) by omega)) d7_note_78 (fun H locs hB => ?_)
  rw [show ((6 * (S 20 0 34)) + 4).toNatClampNeg = 6 * (S 20 0 34).toNatClampNeg + 4 from by  exact ix6 (x := (S 20 0 34)) (j := 4) (by omega) (by omega) (by omega)] at hB
  refine lv_aload_n hx hb d7_note_79 rfl (lv_at hl 0 rfl) ?_
  refine sr_get (v := .ref (ad 56 0)) hx hb hw hown hK hB 35 (hX 20 (by decide)) cf_20 us7 (by decide) fl_7_84 (rfl) d7_note_80 ?_
  refine lv_bipush (v := 6) hx hb d7_note_83 (by decide) ?_
  refine lv_aload_n hx hb d7_note_85 rfl (lv_at hl 0 rfl) ?_
  refine sr_get (v := .int (S 20 0 34)) hx hb hw hown hK hB 34 (hX 20 (by decide)) cf_20 us7 (by decide) fl_7_130 (rfl) d7_note_86 ?_
  refine lv_imul hx hb d7_note_89 ?_
  refine lv_iconst (v := 5) hx hb d7_note_90 (by decide) ?_
  refine lv_iadd hx hb d7_note_91 ?_
  refine lv_iload hx hb d7_note_92 (lv_at hl 4 rfl) ?_
  refine sr_iast hx hb hK hB (hX 56 (by decide)) rfl rfl (by  exact ix6_in (x := (S 20 0 34)) (j := 5) (by omega) (by omega) (by omega) (show _ < ((1800 : Nat) : Int) by omega)) d7_note_94 (fun H locs hB => ?_)
  rw [show ((6 * (S 20 0 34)) + 5).toNatClampNeg = 6 * (S 20 0 34).toNatClampNeg + 5 from by  exact ix6 (x := (S 20 0 34)) (j := 5) (by omega) (by omega) (by omega)] at hB
  refine lv_aload_n hx hb d7_note_95 rfl (lv_at hl 0 rfl) ?_
  refine lv_dup hx hb d7_note_96 rfl ?_
  refine sr_get (v := .int (S 20 0 34)) hx hb hw hown hK hB 34 (hX 20 (by decide)) cf_20 us7 (by decide) fl_7_130 (rfl) d7_note_97 ?_
  refine lv_iconst (v := 1) hx hb d7_note_100 (by decide) ?_
  refine lv_iadd hx hb d7_note_101 ?_
  refine sr_put hx hb hw hown hK hB 34 (hX 20 (by decide)) cf_20 us7 tk7 nm7 (by decide) fl_7_130 rfl rfl rfl rfl d7_note_102 (fun H locs hB => ?_)
  refine lv_aload_n hx hb d7_note_105 rfl (lv_at hl 0 rfl) ?_
  refine lv_aload_n hx hb d7_note_106 rfl (lv_at hl 0 rfl) ?_
  refine sr_get (v := .int (S 20 0 0)) hx hb hw hown hK hB 0 (hX 20 (by decide)) cf_20 us7 (by decide) fl_7_100 (rfl) d7_note_107 ?_
  refine sr_put hx hb hw hown hK hB 7 (hX 20 (by decide)) cf_20 us7 tk7 nm7 (by decide) fl_7_114 rfl rfl rfl rfl d7_note_110 (fun H locs hB => ?_)
  exact se_v C0 hB (hO) d7_note_113
theorem hd7_note : y7_note.cls = R7 ∧ y7_note.cls ≠ "java/lang/invoke/MethodHandle" ∧ y7_note.cls ≠ "java/lang/invoke/VarHandle" ∧ (parseMethodDescriptor y7_note.desc).map (fun d => d.parameters.length) = some 4 := ⟨rfl, by decide, by decide, by decide +kernel⟩
theorem m7_note {l : Launch} {D : va_G} {aC : Nat → ClassId} {ad : Nat → Nat → Nat} {X : Nat → Nat → Prop} {S A : sS} {G : sG} (hX : xR X) (x1 : Int32) (x2 : Int32) (x3 : Int32) (x4 : Int32) (hen : 0 ≤ (S 20 0 34).toInt ∧ (S 20 0 34).toInt < 300) : Met l y7_note (.code y7_note b7_note 5 none :: wall) (rmk 0) (s_Pc [.ref (ad 20 0), .int x1, .int x2, .int x3, .int x4] D aC ad X S A G) (s_Qv D aC ad X G (O7_note S A G x1 x2 x3 x4)) 0 0 (s_N ad X) :=
  s_met (by decide) rfl (Nat.le_of_ble_eq_true rfl) (fun p e s m args below meth c C0 hB ls hl => k7_note_0 C0 hB hX x1 x2 x3 x4 hen hl rfl)

def O7_tryCode (S A : sS) (G : sG) (x1 : Int32) (x2 : Int32) : Int32 × sS × sS := if A 26 0 (x1.toNatClampNeg) ≤ S 20 0 0 then if A 24 0 (x1.toNatClampNeg) = x2 then (0, S, (up3 A 25 0 (x1.toNatClampNeg) 0)) else if (up3 A 25 0 (x1.toNatClampNeg) ((A 25 0 (x1.toNatClampNeg)) + 1)) 25 0 (x1.toNatClampNeg) = 3 then ((-9), S, (up3 (up3 (up3 A 25 0 (x1.toNatClampNeg) ((A 25 0 (x1.toNatClampNeg)) + 1)) 25 0 (x1.toNatClampNeg) 0) 26 0 (x1.toNatClampNeg) ((S 20 0 0) + 300))) else ((-9), S, (up3 A 25 0 (x1.toNatClampNeg) ((A 25 0 (x1.toNatClampNeg)) + 1))) else ((-10), S, A)
set_option maxRecDepth 100000 in
set_option maxHeartbeats 4000000 in
theorem k7_tryCode_0 {p : Program} {l : Launch} {e : Env} {s : State} {m : MethodId} {args : Array Value} {below : List Frame} {meth : Method} {c : Code} {D : va_G} {aC : Nat → ClassId} {ad : Nat → Nat → Nat} {X : Nat → Nat → Prop} {S A : sS} {G : sG} {H : Heap} {locs : List Loc} (C0 : s_C p s m args meth c b7_tryCode 3 R7 (some .int) D aC) (hB : s_B D aC ad X (s_N ad X) S A G s.heap H locs) (hX : xR X) (x1 : Int32) (x2 : Int32) (hx1 : 0 ≤ x1.toInt ∧ x1.toInt < 16) {ls : Array Slot} (hl : lv_has ls 3 [(0, .ref (ad 20 0)), (1, .int x1), (2, .int x2)]) {o : Int32 × sS × sS} (hO : O7_tryCode S A G x1 x2 = o) : W p l e (rmk 0) s m args below meth c H locs 0 0 (MQ below (s_Qi D aC ad X G o) args s 0 0 (s_N ad X)) (F0 m 0 ls []) := by
  obtain ⟨hx, hb, hml, hown, hw, hK, hr, hlocks⟩ := id C0
  unfold O7_tryCode at hO
  refine lv_aload_n hx hb d7_tryCode_0 rfl (lv_at hl 0 rfl) ?_
  refine sr_get (v := .int (S 20 0 0)) hx hb hw hown hK hB 0 (hX 20 (by decide)) cf_20 us7 (by decide) fl_7_100 (rfl) d7_tryCode_1 ?_
  refine lv_aload_n hx hb d7_tryCode_4 rfl (lv_at hl 0 rfl) ?_
  refine sr_get (v := .ref (ad 26 0)) hx hb hw hown hK hB 5 (hX 20 (by decide)) cf_20 us7 (by decide) fl_7_23 (rfl) d7_tryCode_5 ?_
  refine lv_iload_n hx hb d7_tryCode_8 rfl (lv_at hl 1 rfl) ?_
  refine sr_iald (v := A 26 0 (x1.toNatClampNeg)) hx hb hK hB (hX 26 (by decide)) rfl rfl (by (refine vp_in_iff.mpr ?_); (show 0 ≤ x1.toInt ∧ x1.toInt < ((16 : Nat) : Int));  omega) d7_tryCode_9 (rfl) ?_
  refine lv_icmp_ge (tgt := 16) hx hb d7_tryCode_10 (by decide) (fun c_1 => ?_) (fun c_1 => ?_)
  · refine lv_aload_n hx hb d7_tryCode_16 rfl (lv_at hl 0 rfl) ?_
    refine sr_get (v := .ref (ad 24 0)) hx hb hw hown hK hB 3 (hX 20 (by decide)) cf_20 us7 (by decide) fl_7_17 (rfl) d7_tryCode_17 ?_
    refine lv_iload_n hx hb d7_tryCode_20 rfl (lv_at hl 1 rfl) ?_
    refine sr_iald (v := A 24 0 (x1.toNatClampNeg)) hx hb hK hB (hX 24 (by decide)) rfl rfl (by (refine vp_in_iff.mpr ?_); (show 0 ≤ x1.toInt ∧ x1.toInt < ((16 : Nat) : Int));  omega) d7_tryCode_21 (rfl) ?_
    refine lv_iload_n hx hb d7_tryCode_22 rfl (lv_at hl 2 rfl) ?_
    refine lv_icmp_ne (tgt := 35) hx hb d7_tryCode_23 (by decide) (fun c_2 => ?_) (fun c_2 => ?_)
    · refine lv_aload_n hx hb d7_tryCode_35 rfl (lv_at hl 0 rfl) ?_
      refine sr_get (v := .ref (ad 25 0)) hx hb hw hown hK hB 4 (hX 20 (by decide)) cf_20 us7 (by decide) fl_7_20 (rfl) d7_tryCode_36 ?_
      refine lv_iload_n hx hb d7_tryCode_39 rfl (lv_at hl 1 rfl) ?_
      refine lv_dup2_11 hx hb d7_tryCode_40 rfl rfl ?_
      refine sr_iald (v := A 25 0 (x1.toNatClampNeg)) hx hb hK hB (hX 25 (by decide)) rfl rfl (by (refine vp_in_iff.mpr ?_); (show 0 ≤ x1.toInt ∧ x1.toInt < ((16 : Nat) : Int));  omega) d7_tryCode_41 (rfl) ?_
      refine lv_iconst (v := 1) hx hb d7_tryCode_42 (by decide) ?_
      refine lv_iadd hx hb d7_tryCode_43 ?_
      refine sr_iast hx hb hK hB (hX 25 (by decide)) rfl rfl (by (refine vp_in_iff.mpr ?_); (show 0 ≤ x1.toInt ∧ x1.toInt < ((16 : Nat) : Int));  omega) d7_tryCode_44 (fun H locs hB => ?_)
      refine lv_aload_n hx hb d7_tryCode_45 rfl (lv_at hl 0 rfl) ?_
      refine sr_get (v := .ref (ad 25 0)) hx hb hw hown hK hB 4 (hX 20 (by decide)) cf_20 us7 (by decide) fl_7_20 (rfl) d7_tryCode_46 ?_
      refine lv_iload_n hx hb d7_tryCode_49 rfl (lv_at hl 1 rfl) ?_
      refine sr_iald (v := (up3 A 25 0 (x1.toNatClampNeg) ((A 25 0 (x1.toNatClampNeg)) + 1)) 25 0 (x1.toNatClampNeg)) hx hb hK hB (hX 25 (by decide)) rfl rfl (by (refine vp_in_iff.mpr ?_); (show 0 ≤ x1.toInt ∧ x1.toInt < ((16 : Nat) : Int));  omega) d7_tryCode_50 (rfl) ?_
      refine lv_iconst (v := 3) hx hb d7_tryCode_51 (by decide) ?_
      refine lv_icmp_ne (tgt := 76) hx hb d7_tryCode_52 (by decide) (fun c_3 => ?_) (fun c_3 => ?_)
      · refine lv_bipush (v := (-9)) hx hb d7_tryCode_76 (by decide) ?_
        exact se_i C0 hB (by rw [if_pos c_1, if_neg c_2, if_neg c_3] at hO; exact hO) d7_tryCode_78
      · refine lv_aload_n hx hb d7_tryCode_55 rfl (lv_at hl 0 rfl) ?_
        refine sr_get (v := .ref (ad 25 0)) hx hb hw hown hK hB 4 (hX 20 (by decide)) cf_20 us7 (by decide) fl_7_20 (rfl) d7_tryCode_56 ?_
        refine lv_iload_n hx hb d7_tryCode_59 rfl (lv_at hl 1 rfl) ?_
        refine lv_iconst (v := 0) hx hb d7_tryCode_60 (by decide) ?_
        refine sr_iast hx hb hK hB (hX 25 (by decide)) rfl rfl (by (refine vp_in_iff.mpr ?_); (show 0 ≤ x1.toInt ∧ x1.toInt < ((16 : Nat) : Int));  omega) d7_tryCode_61 (fun H locs hB => ?_)
        refine lv_aload_n hx hb d7_tryCode_62 rfl (lv_at hl 0 rfl) ?_
        refine sr_get (v := .ref (ad 26 0)) hx hb hw hown hK hB 5 (hX 20 (by decide)) cf_20 us7 (by decide) fl_7_23 (rfl) d7_tryCode_63 ?_
        refine lv_iload_n hx hb d7_tryCode_66 rfl (lv_at hl 1 rfl) ?_
        refine lv_aload_n hx hb d7_tryCode_67 rfl (lv_at hl 0 rfl) ?_
        refine sr_get (v := .int (S 20 0 0)) hx hb hw hown hK hB 0 (hX 20 (by decide)) cf_20 us7 (by decide) fl_7_100 (rfl) d7_tryCode_68 ?_
        refine lv_sipush (v := 300) hx hb d7_tryCode_71 (by decide) ?_
        refine lv_iadd hx hb d7_tryCode_74 ?_
        refine sr_iast hx hb hK hB (hX 26 (by decide)) rfl rfl (by (refine vp_in_iff.mpr ?_); (show 0 ≤ x1.toInt ∧ x1.toInt < ((16 : Nat) : Int));  omega) d7_tryCode_75 (fun H locs hB => ?_)
        refine lv_bipush (v := (-9)) hx hb d7_tryCode_76 (by decide) ?_
        exact se_i C0 hB (by rw [if_pos c_1, if_neg c_2, if_pos c_3] at hO; exact hO) d7_tryCode_78
    · refine lv_aload_n hx hb d7_tryCode_26 rfl (lv_at hl 0 rfl) ?_
      refine sr_get (v := .ref (ad 25 0)) hx hb hw hown hK hB 4 (hX 20 (by decide)) cf_20 us7 (by decide) fl_7_20 (rfl) d7_tryCode_27 ?_
      refine lv_iload_n hx hb d7_tryCode_30 rfl (lv_at hl 1 rfl) ?_
      refine lv_iconst (v := 0) hx hb d7_tryCode_31 (by decide) ?_
      refine sr_iast hx hb hK hB (hX 25 (by decide)) rfl rfl (by (refine vp_in_iff.mpr ?_); (show 0 ≤ x1.toInt ∧ x1.toInt < ((16 : Nat) : Int));  omega) d7_tryCode_32 (fun H locs hB => ?_)
      refine lv_iconst (v := 0) hx hb d7_tryCode_33 (by decide) ?_
      exact se_i C0 hB (by rw [if_pos c_1, if_pos c_2] at hO; exact hO) d7_tryCode_34
  · refine lv_bipush (v := (-10)) hx hb d7_tryCode_13 (by decide) ?_
    exact se_i C0 hB (by rw [if_neg c_1] at hO; exact hO) d7_tryCode_15
theorem hd7_tryCode : y7_tryCode.cls = R7 ∧ y7_tryCode.cls ≠ "java/lang/invoke/MethodHandle" ∧ y7_tryCode.cls ≠ "java/lang/invoke/VarHandle" ∧ (parseMethodDescriptor y7_tryCode.desc).map (fun d => d.parameters.length) = some 2 := ⟨rfl, by decide, by decide, by decide +kernel⟩
theorem m7_tryCode {l : Launch} {D : va_G} {aC : Nat → ClassId} {ad : Nat → Nat → Nat} {X : Nat → Nat → Prop} {S A : sS} {G : sG} (hX : xR X) (x1 : Int32) (x2 : Int32) (hx1 : 0 ≤ x1.toInt ∧ x1.toInt < 16) : Met l y7_tryCode (.code y7_tryCode b7_tryCode 3 (some .int) :: wall) (rmk 0) (s_Pc [.ref (ad 20 0), .int x1, .int x2] D aC ad X S A G) (s_Qi D aC ad X G (O7_tryCode S A G x1 x2)) 0 0 (s_N ad X) :=
  s_met (by decide) rfl (Nat.le_of_ble_eq_true rfl) (fun p e s m args below meth c C0 hB ls hl => k7_tryCode_0 C0 hB hX x1 x2 hx1 hl rfl)

def V7_stockOf_4 (G : sG) (x1 : Int32) : Nat → sS → sS → Int32 → Nat → Int32
  | 0, S, A, _, _ => 0
  | r + 1, S, A, z2, j3 => if 64 ≤ nI j3 then z2 else if A 35 0 j3 = x1 then V7_stockOf_4 G x1 r S A (z2 + (V7_givableOf S A G (nI j3))) (j3 + 1) else V7_stockOf_4 G x1 r S A (z2 + 0) (j3 + 1)
def V7_stockOf (S A : sS) (G : sG) (x1 : Int32) : Int32 := V7_stockOf_4 G x1 65 S A 0 0
set_option maxRecDepth 100000 in
set_option maxHeartbeats 4000000 in
theorem k7_stockOf_4 {p : Program} {l : Launch} {e : Env} {s : State} {m : MethodId} {args : Array Value} {below : List Frame} {meth : Method} {c : Code} {D : va_G} {aC : Nat → ClassId} {ad : Nat → Nat → Nat} {X : Nat → Nat → Prop} {G : sG} {S A : sS} (C0 : s_C p s m args meth c b7_stockOf 4 R7 (some .int) D aC) (hB : s_B D aC ad X (s_N ad X) S A G s.heap s.heap []) (hX : xR X) (x1 : Int32) (hlo : ∀ i, i < 64 → 0 ≤ (A 36 0 i).toInt ∧ (A 36 0 i).toInt ≤ 6) : ∀ (r : Nat) (z2 : Int32) (j3 : Nat) (hj : j3 ≤ 64) (hr3 : 64 < j3 + r) {ls : Array Slot} (hl : lv_has ls 4 [(0, .ref (ad 20 0)), (1, .int x1), (2, .int z2), (3, .int (nI j3))]) {o : Int32} (hO : V7_stockOf_4 G x1 r S A z2 j3 = o), W p l e (rmk 1) s m args below meth c s.heap [] 0 0 (MQ below (s_Qp o) args s 0 0 (fun _ => False)) (F0 m 4 ls []) := by
  obtain ⟨hx, hb, hml, hown, hw, hK, hr, hlocks⟩ := id C0
  intro r
  induction r with
  | zero =>
    intro z2 j3 hj hr3 ls hl o hO
    exact absurd hr3 (by omega)
  | succ r ih =>
    intro z2 j3 hj hr3 ls hl o hO
    rw [V7_stockOf_4] at hO
    refine lv_iload_n hx hb d7_stockOf_4 rfl (lv_at hl 3 rfl) ?_
    refine lv_bipush (v := 64) hx hb d7_stockOf_5 (by decide) ?_
    refine lv_icmp_ge (tgt := 38) hx hb d7_stockOf_7 (by decide) (fun c_1 => ?_) (fun c_1 => ?_)
    · refine lv_iload_n hx hb d7_stockOf_38 rfl (lv_at hl 2 rfl) ?_
      exact se_pi C0 (by rw [if_pos c_1] at hO; exact hO) d7_stockOf_39
    · refine lv_iload_n hx hb d7_stockOf_10 rfl (lv_at hl 2 rfl) ?_
      refine lv_aload_n hx hb d7_stockOf_11 rfl (lv_at hl 0 rfl) ?_
      refine sr_get (v := .ref (ad 35 0)) hx hb hw hown hK hB 14 (hX 20 (by decide)) cf_20 us7 (by decide) fl_7_45 (rfl) d7_stockOf_12 ?_
      refine lv_iload_n hx hb d7_stockOf_15 rfl (lv_at hl 3 rfl) ?_
      refine sr_iald (v := A 35 0 j3) hx hb hK hB (hX 35 (by decide)) rfl rfl (vp_in_nI (show j3 < 64 by (have aj3 := nI_toInt (n := j3) (by omega)); (have kc_1 := nle_i c_1); (have l64 : (64 : Int32).toInt = 64 := rfl);  omega) (by decide)) d7_stockOf_16 (s_cl (by omega)) ?_
      refine lv_iload_n hx hb d7_stockOf_17 rfl (lv_at hl 1 rfl) ?_
      refine lv_icmp_ne (tgt := 29) hx hb d7_stockOf_18 (by decide) (fun c_2 => ?_) (fun c_2 => ?_)
      · refine lv_iconst (v := 0) hx hb d7_stockOf_29 (by decide) ?_
        refine lv_iadd hx hb d7_stockOf_30 ?_
        refine lv_istore_n (lv' := [(2, .int (z2 + 0)), (0, .ref (ad 20 0)), (1, .int x1), (3, .int (nI j3))]) hx hb d7_stockOf_31 rfl hl (by decide) rfl (fun ls hl => ?_)
        refine lv_iinc (v := nI (j3 + 1)) (lv' := [(3, .int (nI (j3 + 1))), (2, .int (z2 + 0)), (0, .ref (ad 20 0)), (1, .int x1)]) hx hb d7_stockOf_32 hl (k := 3) rfl (nI_1 j3) (by decide) rfl (fun ls hl => ?_)
        refine lv_goto (tgt := 4) hx hb d7_stockOf_35 (by decide) ?_
        exact ih (z2 + 0) (j3 + 1) (by (have aj3 := nI_toInt (n := j3) (by omega)); (have kc_1 := nle_i c_1); (have l64 : (64 : Int32).toInt = 64 := rfl);  omega) (by (have aj3 := nI_toInt (n := j3) (by omega)); (have kc_1 := nle_i c_1); (have l64 : (64 : Int32).toInt = 64 := rfl);  omega) (lv_sub hl [2, 3, 1, 0] rfl) (by rw [if_neg c_1, if_neg c_2] at hO; exact hO)
      · refine lv_aload_n hx hb d7_stockOf_21 rfl (lv_at hl 0 rfl) ?_
        refine lv_iload_n hx hb d7_stockOf_22 rfl (lv_at hl 3 rfl) ?_
        refine sr_vp C0 hB (m7_givableOf hX (nI j3) (by (have aj3 := nI_toInt (n := j3) (by omega)); (have kc_1 := nle_i c_1); (have l64 : (64 : Int32).toInt = 64 := rfl);  first | assumption | omega) (by (have aj3 := nI_toInt (n := j3) (by omega)); (have kc_1 := nle_i c_1); (have l64 : (64 : Int32).toInt = 64 := rfl);  first | assumption | omega)) (hX 20 (by decide)) cf_20 ml_7_133 im_7_givableOf se_7_givableOf in_7 cd_7_givableOf hd7_givableOf ⟨⟨rfl, rfl⟩, by decide, by decide⟩ ⟨Nat.zero_le _, Nat.zero_le _⟩ hl.1 rfl (Nat.le_of_ble_eq_true rfl) d7_stockOf_23 ?_
        refine lv_goto (tgt := 30) hx hb d7_stockOf_26 (by decide) ?_
        refine lv_iadd hx hb d7_stockOf_30 ?_
        refine lv_istore_n (lv' := [(2, .int (z2 + (V7_givableOf S A G (nI j3)))), (0, .ref (ad 20 0)), (1, .int x1), (3, .int (nI j3))]) hx hb d7_stockOf_31 rfl hl (by decide) rfl (fun ls hl => ?_)
        refine lv_iinc (v := nI (j3 + 1)) (lv' := [(3, .int (nI (j3 + 1))), (2, .int (z2 + (V7_givableOf S A G (nI j3)))), (0, .ref (ad 20 0)), (1, .int x1)]) hx hb d7_stockOf_32 hl (k := 3) rfl (nI_1 j3) (by decide) rfl (fun ls hl => ?_)
        refine lv_goto (tgt := 4) hx hb d7_stockOf_35 (by decide) ?_
        exact ih (z2 + (V7_givableOf S A G (nI j3))) (j3 + 1) (by (have aj3 := nI_toInt (n := j3) (by omega)); (have kc_1 := nle_i c_1); (have l64 : (64 : Int32).toInt = 64 := rfl);  omega) (by (have aj3 := nI_toInt (n := j3) (by omega)); (have kc_1 := nle_i c_1); (have l64 : (64 : Int32).toInt = 64 := rfl);  omega) (lv_sub hl [2, 3, 1, 0] rfl) (by rw [if_neg c_1, if_pos c_2] at hO; exact hO)
set_option maxRecDepth 100000 in
set_option maxHeartbeats 4000000 in
theorem k7_stockOf_0 {p : Program} {l : Launch} {e : Env} {s : State} {m : MethodId} {args : Array Value} {below : List Frame} {meth : Method} {c : Code} {D : va_G} {aC : Nat → ClassId} {ad : Nat → Nat → Nat} {X : Nat → Nat → Prop} {S A : sS} {G : sG} (C0 : s_C p s m args meth c b7_stockOf 4 R7 (some .int) D aC) (hB : s_B D aC ad X (s_N ad X) S A G s.heap s.heap []) (hX : xR X) (x1 : Int32) (hlo : ∀ i, i < 64 → 0 ≤ (A 36 0 i).toInt ∧ (A 36 0 i).toInt ≤ 6) {ls : Array Slot} (hl : lv_has ls 4 [(0, .ref (ad 20 0)), (1, .int x1)]) {o : Int32} (hO : V7_stockOf S A G x1 = o) : W p l e (rmk 1) s m args below meth c s.heap [] 0 0 (MQ below (s_Qp o) args s 0 0 (fun _ => False)) (F0 m 0 ls []) := by
  obtain ⟨hx, hb, hml, hown, hw, hK, hr, hlocks⟩ := id C0
  unfold V7_stockOf at hO
  refine lv_iconst (v := 0) hx hb d7_stockOf_0 (by decide) ?_
  refine lv_istore_n (lv' := [(2, .int 0), (0, .ref (ad 20 0)), (1, .int x1)]) hx hb d7_stockOf_1 rfl hl (by decide) rfl (fun ls hl => ?_)
  refine lv_iconst (v := 0) hx hb d7_stockOf_2 (by decide) ?_
  refine lv_istore_n (lv' := [(3, .int 0), (2, .int 0), (0, .ref (ad 20 0)), (1, .int x1)]) hx hb d7_stockOf_3 rfl hl (by decide) rfl (fun ls hl => ?_)
  exact k7_stockOf_4 C0 hB hX x1 hlo 65 0 0 (by  omega) (by  omega) (lv_sub hl [2, 3, 1, 0] rfl) (hO)
theorem hd7_stockOf : y7_stockOf.cls = R7 ∧ y7_stockOf.cls ≠ "java/lang/invoke/MethodHandle" ∧ y7_stockOf.cls ≠ "java/lang/invoke/VarHandle" ∧ (parseMethodDescriptor y7_stockOf.desc).map (fun d => d.parameters.length) = some 1 := ⟨rfl, by decide, by decide, by decide +kernel⟩
theorem m7_stockOf {l : Launch} {D : va_G} {aC : Nat → ClassId} {ad : Nat → Nat → Nat} {X : Nat → Nat → Prop} {S A : sS} {G : sG} (hX : xR X) (x1 : Int32) (hlo : ∀ i, i < 64 → 0 ≤ (A 36 0 i).toInt ∧ (A 36 0 i).toInt ≤ 6) : Met l y7_stockOf (.code y7_stockOf b7_stockOf 4 (some .int) :: wall) (rmk 1) (s_Pc [.ref (ad 20 0), .int x1] D aC ad X S A G) (s_Qp (V7_stockOf S A G x1)) 0 0 (fun _ => False) :=
  s_met (by decide) rfl (Nat.le_of_ble_eq_true rfl) (fun p e s m args below meth c C0 hB ls hl => k7_stockOf_0 C0 hB hX x1 hlo hl rfl)
