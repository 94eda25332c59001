theorem fr_12 (k : Nat) : fr 12 k = 0 := rfl
theorem fr_13 (k : Nat) : fr 13 k = 0 := rfl
theorem fr_14 (k : Nat) : fr 14 k = 0 := rfl
theorem xC_o {X : Nat → Nat → Prop} {G : sG} {n0 : Nat} (h : xC X G) : xC (Xx X 14 n0) (up2 G 4 n0 (some n0)) := by
  obtain ⟨h1, h2, h3, h4, h5, h6, h7, h8⟩ := h
  refine ⟨fun f hf => Or.inl (h1 f hf), fun n hn => Or.inl (h2 n hn), fun n hn => ⟨Or.inl (h3 n hn).1, Or.inl (h3 n hn).2.1, Or.inl (h3 n hn).2.2⟩, fun i n h => ?_, fun i n h => ?_, fun i n h => ?_, fun i hi => ?_, fun i hi => ?_⟩
  · exact ⟨(h4 i n h).1, Or.inl (h4 i n h).2⟩
  · exact ⟨(h5 i n h).1, Or.inl (h5 i n h).2⟩
  · by_cases e2 : i = n0
    · subst e2; rw [up2_s] at h; cases h; exact ⟨rfl, Or.inr ⟨rfl, rfl⟩⟩
    · rw [up2_n (fun q => e2 q.2)] at h; exact ⟨(h6 _ _ h).1, Or.inl (h6 _ _ h).2⟩
  · exact h7 i hi
  · exact h8 i hi

def O6_user (S A : sS) (G : sG) (x1 : Int32) (x2 : Int32) (x3 : Int32) : Int32 × sS × sS × Option Nat := if x1 < 0 then ((-1), S, A, none) else if 16 ≤ x1 then ((-1), S, A, none) else if x2 < 0 then ((-1), S, A, none) else if 2 < x2 then ((-1), S, A, none) else if G 1 (x1.toNatClampNeg) = none then (0, (upO S 12 (x1.toNatClampNeg) [x2, x3, 0, 0]), A, some (x1.toNatClampNeg)) else ((-1), S, A, none)
set_option maxRecDepth 100000 in
set_option maxHeartbeats 4000000 in
theorem k6_user_0 {p : Program} {l : Launch} {e : Env} {s : State} {m : MethodId} {args : Array Value} {below : List Frame} {meth : Method} {c : Code} {D : va_G} {aC : Nat → ClassId} {ad : Nat → Nat → Nat} {X : Nat → Nat → Prop} {S A : sS} {G : sG} {sz : Nat} (hsz0 : s.heap.size = sz) (C0 : s_C p s m args meth c b6_user 4 R6 (some .int) D aC) (hB : s_B D aC ad X (a_Z ad X sz) S A G s.heap s.heap []) (hX : xC X G) (hLc : s_L X G) (hXG : ∀ n, X 12 n → ¬ G 1 n = none) (hun : ∀ n1, X 1 n1 → n1 = 0) (x1 : Int32) (x2 : Int32) (x3 : Int32)  {ls : Array Slot} (hl : lv_has ls 4 [(0, .ref (ad 0 0)), (1, .int x1), (2, .int x2), (3, .int x3)]) {o : Int32 × sS × sS × Option Nat} (hO : O6_user S A G x1 x2 x3 = o) : W p l e { frames := 2, cells := 1, slots := 4, locals := 120 } s m args below meth c s.heap [] 0 0 (MQ below (a_Q D aC ad X G 12 1 o sz) args s 1 4 (a_Z ad X sz)) (F0 m 0 ls []) := by
  obtain ⟨hx, hb, hml, hown, hw, hK, hr, hlocks⟩ := id C0
  have hZn : ∀ q, s.heap.size ≤ q → a_Z ad X sz q := fun q h => Or.inr (by rw [← hsz0]; exact h)
  unfold O6_user at hO
  refine lv_iload_n hx hb d6_user_0 rfl (lv_at hl 1 rfl) ?_
  refine lv_if_lt (tgt := 28) hx hb d6_user_1 (by decide) (fun c_1 => ?_) (fun c_1 => ?_)
  · refine lv_iconst (v := (-1)) hx hb d6_user_28 (by decide) ?_
    exact se_a0 C0 hB (by rw [if_pos c_1] at hO; exact hO) d6_user_29
  · refine lv_iload_n hx hb d6_user_4 rfl (lv_at hl 1 rfl) ?_
    refine lv_bipush (v := 16) hx hb d6_user_5 (by decide) ?_
    refine lv_icmp_ge (tgt := 28) hx hb d6_user_7 (by decide) (fun c_2 => ?_) (fun c_2 => ?_)
    · refine lv_iconst (v := (-1)) hx hb d6_user_28 (by decide) ?_
      exact se_a0 C0 hB (by rw [if_neg c_1, if_pos c_2] at hO; exact hO) d6_user_29
    · refine lv_iload_n hx hb d6_user_10 rfl (lv_at hl 2 rfl) ?_
      refine lv_if_lt (tgt := 28) hx hb d6_user_11 (by decide) (fun c_3 => ?_) (fun c_3 => ?_)
      · refine lv_iconst (v := (-1)) hx hb d6_user_28 (by decide) ?_
        exact se_a0 C0 hB (by rw [if_neg c_1, if_neg c_2, if_pos c_3] at hO; exact hO) d6_user_29
      · refine lv_iload_n hx hb d6_user_14 rfl (lv_at hl 2 rfl) ?_
        refine lv_iconst (v := 2) hx hb d6_user_15 (by decide) ?_
        refine lv_icmp_gt (tgt := 28) hx hb d6_user_16 (by decide) (fun c_4 => ?_) (fun c_4 => ?_)
        · refine lv_iconst (v := (-1)) hx hb d6_user_28 (by decide) ?_
          exact se_a0 C0 hB (by rw [if_neg c_1, if_neg c_2, if_neg c_3, if_pos c_4] at hO; exact hO) d6_user_29
        · refine lv_aload_n hx hb d6_user_19 rfl (lv_at hl 0 rfl) ?_
          refine sr_get (v := .ref (ad 1 0)) hx hb hw hown hK hB 0 (hX.1 0 (by decide)) cf_0 us6 (by decide) fl_6_11 (rfl) d6_user_20 ?_
          refine lv_iload_n hx hb d6_user_23 rfl (lv_at hl 1 rfl) ?_
          refine sr_aald (v := G 1 (x1.toNatClampNeg)) hx hb hK hB (hX.1 1 (by decide)) rfl rfl rfl (by (refine vp_in_iff.mpr ?_); (show 0 ≤ x1.toInt ∧ x1.toInt < ((16 : Nat) : Int)); (have kc_1 := nlt_i c_1); (have kc_2 := nle_i c_2); (have l0 : (0 : Int32).toInt = 0 := rfl); (have l16 : (16 : Int32).toInt = 16 := rfl);  omega) d6_user_24 rfl ?_
          refine sr_ifnull (tgt := 30) hx hb d6_user_25 (by decide) (fun c_5 => ?_) (fun c_5 => ?_)
          · refine lv_aload_n hx hb d6_user_30 rfl (lv_at hl 0 rfl) ?_
            refine sr_get (v := .ref (ad 1 0)) hx hb hw hown hK hB 0 (hX.1 0 (by decide)) cf_0 us6 (by decide) fl_6_11 (rfl) d6_user_31 ?_
            refine lv_iload_n hx hb d6_user_34 rfl (lv_at hl 1 rfl) ?_
            have hC : c_B D aC ad X (a_Z ad X sz) S A G [] s.heap s.heap [] := ⟨hB, hLc, fun q h => (by cases h), List.nodup_nil⟩
            have hnx : ¬ X 12 (x1.toNatClampNeg) := fun h => hXG _ h (by assumption)
            refine cr_new (ci := 5) (fs := [.int 0, .int 0, .int 0, .int 0]) hx hb hw hown hK hC hZn us5 tk5 cl_6_9 it_5 in_5 rfl (fun j hj => by rcases (show j = 0 ∨ j = 1 ∨ j = 2 ∨ j = 3 by omega) with rfl | rfl | rfl | rfl <;> rfl) (by decide) (by decide) d6_user_35 (fun q H eq hC => ?_)
            refine lv_dup hx hb d6_user_38 rfl ?_
            refine lv_iload_n hx hb d6_user_39 rfl (lv_at hl 2 rfl) ?_
            refine lv_iload_n hx hb d6_user_40 rfl (lv_at hl 3 rfl) ?_
            refine cr_init (va_runI (Ts := wall) (As := [.int x2, .int x3]) (rest := [.ref q, .int x1, .ref (ad 1 0)]) ⟨hx, hb, hml, hown, hw⟩ (m5_init q H.size x2 x3 ) (cwI 2 hw (wall_in0 cd_5_init) rfl rfl rfl (hw _ in_5) (hw _ ml_6_77) (hw _ im_5_init) rfl hd5_init ⟨by decide, by decide⟩) ⟨c_blind (fun _ _ _ _ h => h), c_pre hK (hC.2.2.1 _ List.mem_cons_self).1 (fun _ _ => trivial)⟩ rfl rfl hl.1 rfl (lv_room (Nat.le_of_ble_eq_true rfl)) d6_user_41 ⟨by decide, by decide⟩) hC hZn (fun w1 H locs hw1 hC => ?_)
            subst hw1
            have hcell := (hC.2.2.1 _ List.mem_cons_self).1
            have hC := c_abs hC 12 (x1.toNatClampNeg) hnx (upO S 12 (x1.toNatClampNeg) [x2, x3, 0, 0]) A G (fun f n k h => upO_n (fun z => hnx (by rw [← z.1, ← z.2]; exact h))) (fun _ _ _ _ => rfl) (fun _ _ _ _ => rfl) (c_cell (f0 := 12) (n0 := (x1.toNatClampNeg)) hcell ⟨rfl, rfl, rfl, rfl⟩ adx_s (fun k hk => by unfold s_fv; rw [if_pos (fr_12 k), upO_s]; rcases (show k = 0 ∨ k = 1 ∨ k = 2 ∨ k = 3 by omega) with rfl | rfl | rfl | rfl <;> rfl)) (fun _ k _ h => absurd (fr_12 k) h) (fun h => absurd h (by decide))
            refine sr_aast (f := 1) (n := 0) (u := (x1.toNatClampNeg)) hx hb hK hC.1 (Or.inl (hX.1 1 (by decide))) rfl rfl (Or.inr ⟨rfl, rfl⟩) cf_12 (fun n1 h => h.elim (hun n1) (fun z => absurd z.1 (by decide))) (by (refine vp_in_iff.mpr ?_); (show 0 ≤ x1.toInt ∧ x1.toInt < ((16 : Nat) : Int)); (have kc_1 := nlt_i c_1); (have kc_2 := nle_i c_2); (have l0 : (0 : Int32).toInt = 0 := rfl); (have l16 : (16 : Int32).toInt = 16 := rfl);  omega) rfl adx_s.symm d6_user_44 (fun H locs hB => ?_)
            refine lv_iconst (v := 0) hx hb d6_user_45 (by decide) ?_
            exact se_a1 (ad0 := ad) (X0 := X) (G0 := G) (n := x1.toNatClampNeg) C0 rfl rfl (fun f n h => adx_o hnx h) hB (by rw [if_neg c_1, if_neg c_2, if_neg c_3, if_neg c_4, if_pos c_5] at hO; exact hO) d6_user_46
          · refine lv_iconst (v := (-1)) hx hb d6_user_28 (by decide) ?_
            exact se_a0 C0 hB (by rw [if_neg c_1, if_neg c_2, if_neg c_3, if_neg c_4, if_neg c_5] at hO; exact hO) d6_user_29
theorem hd6_user : y6_user.cls = R6 ∧ y6_user.cls ≠ "java/lang/invoke/MethodHandle" ∧ y6_user.cls ≠ "java/lang/invoke/VarHandle" ∧ (parseMethodDescriptor y6_user.desc).map (fun d => d.parameters.length) = some 3 := ⟨rfl, by decide, by decide, by decide +kernel⟩
theorem m6_user {l : Launch} {D : va_G} {aC : Nat → ClassId} {ad : Nat → Nat → Nat} {X : Nat → Nat → Prop} {S A : sS} {G : sG} (sz : Nat) (hX : xC X G) (hLc : s_L X G) (hXG : ∀ n, X 12 n → ¬ G 1 n = none) (hun : ∀ n1, X 1 n1 → n1 = 0) (x1 : Int32) (x2 : Int32) (x3 : Int32)  : Met l y6_user (.code y6_user b6_user 4 (some .int) :: wall) { frames := 2, cells := 1, slots := 4, locals := 120 } (a_Pc [.ref (ad 0 0), .int x1, .int x2, .int x3] D aC ad X S A G sz) (a_Q D aC ad X G 12 1 (O6_user S A G x1 x2 x3) sz) 1 4 (a_Z ad X sz) :=
  a_met (by decide) rfl (Nat.le_of_ble_eq_true rfl) (fun p e s m args below meth c hsz C0 hB ls hl => k6_user_0 hsz C0 hB hX hLc hXG hun x1 x2 x3  hl rfl)

def O6_item (S A : sS) (G : sG) (x1 : Int32) (x2 : Int32) (x3 : Int32) : Int32 × sS × sS × Option Nat := if x1 < 0 then ((-1), S, A, none) else if 32 ≤ x1 then ((-1), S, A, none) else if x3 < 0 then ((-1), S, A, none) else if 10000 < x3 then ((-1), S, A, none) else if G 2 (x1.toNatClampNeg) = none then (0, (upO S 13 (x1.toNatClampNeg) [x2, x3, 0]), A, some (x1.toNatClampNeg)) else ((-1), S, A, none)
set_option maxRecDepth 100000 in
set_option maxHeartbeats 4000000 in
theorem k6_item_0 {p : Program} {l : Launch} {e : Env} {s : State} {m : MethodId} {args : Array Value} {below : List Frame} {meth : Method} {c : Code} {D : va_G} {aC : Nat → ClassId} {ad : Nat → Nat → Nat} {X : Nat → Nat → Prop} {S A : sS} {G : sG} {sz : Nat} (hsz0 : s.heap.size = sz) (C0 : s_C p s m args meth c b6_item 4 R6 (some .int) D aC) (hB : s_B D aC ad X (a_Z ad X sz) S A G s.heap s.heap []) (hX : xC X G) (hLc : s_L X G) (hXG : ∀ n, X 13 n → ¬ G 2 n = none) (hun : ∀ n1, X 2 n1 → n1 = 0) (x1 : Int32) (x2 : Int32) (x3 : Int32) (hb2 : x2 = 0 ∨ x2 = 1) {ls : Array Slot} (hl : lv_has ls 4 [(0, .ref (ad 0 0)), (1, .int x1), (2, .int x2), (3, .int x3)]) {o : Int32 × sS × sS × Option Nat} (hO : O6_item S A G x1 x2 x3 = o) : W p l e { frames := 2, cells := 1, slots := 3, locals := 120 } s m args below meth c s.heap [] 0 0 (MQ below (a_Q D aC ad X G 13 2 o sz) args s 1 3 (a_Z ad X sz)) (F0 m 0 ls []) := by
  obtain ⟨hx, hb, hml, hown, hw, hK, hr, hlocks⟩ := id C0
  have hZn : ∀ q, s.heap.size ≤ q → a_Z ad X sz q := fun q h => Or.inr (by rw [← hsz0]; exact h)
  unfold O6_item at hO
  refine lv_iload_n hx hb d6_item_0 rfl (lv_at hl 1 rfl) ?_
  refine lv_if_lt (tgt := 30) hx hb d6_item_1 (by decide) (fun c_1 => ?_) (fun c_1 => ?_)
  · refine lv_iconst (v := (-1)) hx hb d6_item_30 (by decide) ?_
    exact se_a0 C0 hB (by rw [if_pos c_1] at hO; exact hO) d6_item_31
  · refine lv_iload_n hx hb d6_item_4 rfl (lv_at hl 1 rfl) ?_
    refine lv_bipush (v := 32) hx hb d6_item_5 (by decide) ?_
    refine lv_icmp_ge (tgt := 30) hx hb d6_item_7 (by decide) (fun c_2 => ?_) (fun c_2 => ?_)
    · refine lv_iconst (v := (-1)) hx hb d6_item_30 (by decide) ?_
      exact se_a0 C0 hB (by rw [if_neg c_1, if_pos c_2] at hO; exact hO) d6_item_31
    · refine lv_iload_n hx hb d6_item_10 rfl (lv_at hl 3 rfl) ?_
      refine lv_if_lt (tgt := 30) hx hb d6_item_11 (by decide) (fun c_3 => ?_) (fun c_3 => ?_)
      · refine lv_iconst (v := (-1)) hx hb d6_item_30 (by decide) ?_
        exact se_a0 C0 hB (by rw [if_neg c_1, if_neg c_2, if_pos c_3] at hO; exact hO) d6_item_31
      · refine lv_iload_n hx hb d6_item_14 rfl (lv_at hl 3 rfl) ?_
        refine lv_sipush (v := 10000) hx hb d6_item_15 (by decide) ?_
        refine lv_icmp_gt (tgt := 30) hx hb d6_item_18 (by decide) (fun c_4 => ?_) (fun c_4 => ?_)
        · refine lv_iconst (v := (-1)) hx hb d6_item_30 (by decide) ?_
          exact se_a0 C0 hB (by rw [if_neg c_1, if_neg c_2, if_neg c_3, if_pos c_4] at hO; exact hO) d6_item_31
        · refine lv_aload_n hx hb d6_item_21 rfl (lv_at hl 0 rfl) ?_
          refine sr_get (v := .ref (ad 2 0)) hx hb hw hown hK hB 1 (hX.1 0 (by decide)) cf_0 us6 (by decide) fl_6_17 (rfl) d6_item_22 ?_
          refine lv_iload_n hx hb d6_item_25 rfl (lv_at hl 1 rfl) ?_
          refine sr_aald (v := G 2 (x1.toNatClampNeg)) hx hb hK hB (hX.1 2 (by decide)) rfl rfl rfl (by (refine vp_in_iff.mpr ?_); (show 0 ≤ x1.toInt ∧ x1.toInt < ((32 : Nat) : Int)); (have kc_1 := nlt_i c_1); (have kc_2 := nle_i c_2); (have l0 : (0 : Int32).toInt = 0 := rfl); (have l32 : (32 : Int32).toInt = 32 := rfl);  omega) d6_item_26 rfl ?_
          refine sr_ifnull (tgt := 32) hx hb d6_item_27 (by decide) (fun c_5 => ?_) (fun c_5 => ?_)
          · refine lv_aload_n hx hb d6_item_32 rfl (lv_at hl 0 rfl) ?_
            refine sr_get (v := .ref (ad 2 0)) hx hb hw hown hK hB 1 (hX.1 0 (by decide)) cf_0 us6 (by decide) fl_6_17 (rfl) d6_item_33 ?_
            refine lv_iload_n hx hb d6_item_36 rfl (lv_at hl 1 rfl) ?_
            have hC : c_B D aC ad X (a_Z ad X sz) S A G [] s.heap s.heap [] := ⟨hB, hLc, fun q h => (by cases h), List.nodup_nil⟩
            have hnx : ¬ X 13 (x1.toNatClampNeg) := fun h => hXG _ h (by assumption)
            refine cr_new (ci := 1) (fs := [.int 0, .int 0, .int 0]) hx hb hw hown hK hC hZn us1 tk1 cl_6_15 it_1 in_1 rfl (fun j hj => by rcases (show j = 0 ∨ j = 1 ∨ j = 2 by omega) with rfl | rfl | rfl <;> rfl) (by decide) (by decide) d6_item_37 (fun q H eq hC => ?_)
            refine lv_dup hx hb d6_item_40 rfl ?_
            refine lv_iload_n hx hb d6_item_41 rfl (lv_at hl 2 rfl) ?_
            refine lv_iload_n hx hb d6_item_42 rfl (lv_at hl 3 rfl) ?_
            refine cr_init (va_runI (Ts := wall) (As := [.int x2, .int x3]) (rest := [.ref q, .int x1, .ref (ad 2 0)]) ⟨hx, hb, hml, hown, hw⟩ (m1_init q H.size x2 x3 hb2) (cwI 2 hw (wall_in0 cd_1_init) rfl rfl rfl (hw _ in_1) (hw _ ml_6_80) (hw _ im_1_init) rfl hd1_init ⟨by decide, by decide⟩) ⟨c_blind (fun _ _ _ _ h => h), c_pre hK (hC.2.2.1 _ List.mem_cons_self).1 (fun _ _ => trivial)⟩ rfl rfl hl.1 rfl (lv_room (Nat.le_of_ble_eq_true rfl)) d6_item_43 ⟨by decide, by decide⟩) hC hZn (fun w1 H locs hw1 hC => ?_)
            subst hw1
            have hcell := (hC.2.2.1 _ List.mem_cons_self).1
            have hC := c_abs hC 13 (x1.toNatClampNeg) hnx (upO S 13 (x1.toNatClampNeg) [x2, x3, 0]) A G (fun f n k h => upO_n (fun z => hnx (by rw [← z.1, ← z.2]; exact h))) (fun _ _ _ _ => rfl) (fun _ _ _ _ => rfl) (c_cell (f0 := 13) (n0 := (x1.toNatClampNeg)) hcell ⟨rfl, rfl, rfl, rfl⟩ adx_s (fun k hk => by unfold s_fv; rw [if_pos (fr_13 k), upO_s]; rcases (show k = 0 ∨ k = 1 ∨ k = 2 by omega) with rfl | rfl | rfl <;> rfl)) (fun _ k _ h => absurd (fr_13 k) h) (fun h => absurd h (by decide))
            refine sr_aast (f := 2) (n := 0) (u := (x1.toNatClampNeg)) hx hb hK hC.1 (Or.inl (hX.1 2 (by decide))) rfl rfl (Or.inr ⟨rfl, rfl⟩) cf_13 (fun n1 h => h.elim (hun n1) (fun z => absurd z.1 (by decide))) (by (refine vp_in_iff.mpr ?_); (show 0 ≤ x1.toInt ∧ x1.toInt < ((32 : Nat) : Int)); (have kc_1 := nlt_i c_1); (have kc_2 := nle_i c_2); (have l0 : (0 : Int32).toInt = 0 := rfl); (have l32 : (32 : Int32).toInt = 32 := rfl);  omega) rfl adx_s.symm d6_item_46 (fun H locs hB => ?_)
            refine lv_iconst (v := 0) hx hb d6_item_47 (by decide) ?_
            exact se_a1 (ad0 := ad) (X0 := X) (G0 := G) (n := x1.toNatClampNeg) C0 rfl rfl (fun f n h => adx_o hnx h) hB (by rw [if_neg c_1, if_neg c_2, if_neg c_3, if_neg c_4, if_pos c_5] at hO; exact hO) d6_item_48
          · refine lv_iconst (v := (-1)) hx hb d6_item_30 (by decide) ?_
            exact se_a0 C0 hB (by rw [if_neg c_1, if_neg c_2, if_neg c_3, if_neg c_4, if_neg c_5] at hO; exact hO) d6_item_31
theorem hd6_item : y6_item.cls = R6 ∧ y6_item.cls ≠ "java/lang/invoke/MethodHandle" ∧ y6_item.cls ≠ "java/lang/invoke/VarHandle" ∧ (parseMethodDescriptor y6_item.desc).map (fun d => d.parameters.length) = some 3 := ⟨rfl, by decide, by decide, by decide +kernel⟩
theorem m6_item {l : Launch} {D : va_G} {aC : Nat → ClassId} {ad : Nat → Nat → Nat} {X : Nat → Nat → Prop} {S A : sS} {G : sG} (sz : Nat) (hX : xC X G) (hLc : s_L X G) (hXG : ∀ n, X 13 n → ¬ G 2 n = none) (hun : ∀ n1, X 2 n1 → n1 = 0) (x1 : Int32) (x2 : Int32) (x3 : Int32) (hb2 : x2 = 0 ∨ x2 = 1) : Met l y6_item (.code y6_item b6_item 4 (some .int) :: wall) { frames := 2, cells := 1, slots := 3, locals := 120 } (a_Pc [.ref (ad 0 0), .int x1, .int x2, .int x3] D aC ad X S A G sz) (a_Q D aC ad X G 13 2 (O6_item S A G x1 x2 x3) sz) 1 3 (a_Z ad X sz) :=
  a_met (by decide) rfl (Nat.le_of_ble_eq_true rfl) (fun p e s m args below meth c hsz C0 hB ls hl => k6_item_0 hsz C0 hB hX hLc hXG hun x1 x2 x3 hb2 hl rfl)

def O6_order (S A : sS) (G : sG) (x1 : Int32) (x2 : Int32) (x3 : Int32) (x4 : Int32) : Int32 × sS × sS × Option Nat := if V6_isItem S A G x1 = 0 then ((-1), S, A, none) else if x2 < 1 then ((-1), S, A, none) else if 1000 < x2 then ((-1), S, A, none) else if x3 < 0 then ((-1), S, A, none) else if 100000 < x3 then ((-1), S, A, none) else if S 0 0 8 < x4 then if S 0 0 9 = (-1) then ((-2), S, A, none) else if V6_isPharmacistIn S A G  = 0 then ((-3), S, A, none) else if S 0 0 13 < 60 then (S 0 0 13, (O6_accept (up3 (upO S 14 ((S 0 0 13).toNatClampNeg) [x1, x3, x4, x2, 0, 0, 0]) 0 0 13 ((S 0 0 13) + 1)) A (up2 G 4 ((S 0 0 13).toNatClampNeg) (some ((S 0 0 13).toNatClampNeg)))).1, (O6_accept (up3 (upO S 14 ((S 0 0 13).toNatClampNeg) [x1, x3, x4, x2, 0, 0, 0]) 0 0 13 ((S 0 0 13) + 1)) A (up2 G 4 ((S 0 0 13).toNatClampNeg) (some ((S 0 0 13).toNatClampNeg)))).2, some ((S 0 0 13).toNatClampNeg)) else ((-8), S, A, none) else ((-1), S, A, none)
set_option maxRecDepth 100000 in
set_option maxHeartbeats 4000000 in
theorem k6_order_0 {p : Program} {l : Launch} {e : Env} {s : State} {m : MethodId} {args : Array Value} {below : List Frame} {meth : Method} {c : Code} {D : va_G} {aC : Nat → ClassId} {ad : Nat → Nat → Nat} {X : Nat → Nat → Prop} {S A : sS} {G : sG} {sz : Nat} (hsz0 : s.heap.size = sz) (C0 : s_C p s m args meth c b6_order 6 R6 (some .int) D aC) (hB : s_B D aC ad X (a_Z ad X sz) S A G s.heap s.heap []) (hX : xC X G) (hLc : s_L X G) (hXG : ∀ n, X 14 n → ¬ G 4 n = none) (hun : ∀ n1, X 4 n1 → n1 = 0) (x1 : Int32) (x2 : Int32) (x3 : Int32) (x4 : Int32) (hoc : 0 ≤ (S 0 0 13).toInt ∧ (S 0 0 13).toInt ≤ 60) (hgn : ∀ i : Nat, (S 0 0 13).toInt ≤ (i : Int) → G 4 i = none) {ls : Array Slot} (hl : lv_has ls 6 [(0, .ref (ad 0 0)), (1, .int x1), (2, .int x2), (3, .int x3), (4, .int x4)]) {o : Int32 × sS × sS × Option Nat} (hO : O6_order S A G x1 x2 x3 x4 = o) : W p l e { frames := 4, cells := 1, slots := 7, locals := 200 } s m args below meth c s.heap [] 0 0 (MQ below (a_Q D aC ad X G 14 4 o sz) args s 1 7 (a_Z ad X sz)) (F0 m 0 ls []) := by
  obtain ⟨hx, hb, hml, hown, hw, hK, hr, hlocks⟩ := id C0
  have hZn : ∀ q, s.heap.size ≤ q → a_Z ad X sz q := fun q h => Or.inr (by rw [← hsz0]; exact h)
  unfold O6_order at hO
  refine lv_aload_n hx hb d6_order_0 rfl (lv_at hl 0 rfl) ?_
  refine lv_iload_n hx hb d6_order_1 rfl (lv_at hl 1 rfl) ?_
  refine sr_vp C0 hB (m6_isItem hX x1 ) (hX.1 0 (by decide)) cf_0 ml_6_101 im_6_isItem se_6_isItem in_6 cd_6_isItem hd6_isItem ⟨⟨rfl, rfl⟩, by decide, by decide⟩ ⟨Nat.zero_le _, Nat.zero_le _⟩ hl.1 rfl (Nat.le_of_ble_eq_true rfl) d6_order_2 ?_
  refine lv_if_eq (tgt := 39) hx hb d6_order_5 (by decide) (fun c_1 => ?_) (fun c_1 => ?_)
  · refine lv_iconst (v := (-1)) hx hb d6_order_39 (by decide) ?_
    exact se_a0 C0 hB (by rw [if_pos c_1] at hO; exact hO) d6_order_40
  · refine lv_iload_n hx hb d6_order_8 rfl (lv_at hl 2 rfl) ?_
    refine lv_iconst (v := 1) hx hb d6_order_9 (by decide) ?_
    refine lv_icmp_lt (tgt := 39) hx hb d6_order_10 (by decide) (fun c_2 => ?_) (fun c_2 => ?_)
    · refine lv_iconst (v := (-1)) hx hb d6_order_39 (by decide) ?_
      exact se_a0 C0 hB (by rw [if_neg c_1, if_pos c_2] at hO; exact hO) d6_order_40
    · refine lv_iload_n hx hb d6_order_13 rfl (lv_at hl 2 rfl) ?_
      refine lv_sipush (v := 1000) hx hb d6_order_14 (by decide) ?_
      refine lv_icmp_gt (tgt := 39) hx hb d6_order_17 (by decide) (fun c_3 => ?_) (fun c_3 => ?_)
      · refine lv_iconst (v := (-1)) hx hb d6_order_39 (by decide) ?_
        exact se_a0 C0 hB (by rw [if_neg c_1, if_neg c_2, if_pos c_3] at hO; exact hO) d6_order_40
      · refine lv_iload_n hx hb d6_order_20 rfl (lv_at hl 3 rfl) ?_
        refine lv_if_lt (tgt := 39) hx hb d6_order_21 (by decide) (fun c_4 => ?_) (fun c_4 => ?_)
        · refine lv_iconst (v := (-1)) hx hb d6_order_39 (by decide) ?_
          exact se_a0 C0 hB (by rw [if_neg c_1, if_neg c_2, if_neg c_3, if_pos c_4] at hO; exact hO) d6_order_40
        · refine lv_iload_n hx hb d6_order_24 rfl (lv_at hl 3 rfl) ?_
          refine lv_ldc (v := 100000) hx hb hown (hw _ kc_6_104) d6_order_25 ?_
          refine lv_icmp_gt (tgt := 39) hx hb d6_order_27 (by decide) (fun c_5 => ?_) (fun c_5 => ?_)
          · refine lv_iconst (v := (-1)) hx hb d6_order_39 (by decide) ?_
            exact se_a0 C0 hB (by rw [if_neg c_1, if_neg c_2, if_neg c_3, if_neg c_4, if_pos c_5] at hO; exact hO) d6_order_40
          · refine lv_iload hx hb d6_order_30 (lv_at hl 4 rfl) ?_
            refine lv_aload_n hx hb d6_order_32 rfl (lv_at hl 0 rfl) ?_
            refine sr_get (v := .int (S 0 0 8)) hx hb hw hown hK hB 8 (hX.1 0 (by decide)) cf_0 us6 (by decide) fl_6_54 (rfl) d6_order_33 ?_
            refine lv_icmp_gt (tgt := 41) hx hb d6_order_36 (by decide) (fun c_6 => ?_) (fun c_6 => ?_)
            · refine lv_aload_n hx hb d6_order_41 rfl (lv_at hl 0 rfl) ?_
              refine sr_get (v := .int (S 0 0 9)) hx hb hw hown hK hB 9 (hX.1 0 (by decide)) cf_0 us6 (by decide) fl_6_58 (rfl) d6_order_42 ?_
              refine lv_iconst (v := (-1)) hx hb d6_order_45 (by decide) ?_
              refine lv_icmp_ne (tgt := 52) hx hb d6_order_46 (by decide) (fun c_7 => ?_) (fun c_7 => ?_)
              · refine lv_aload_n hx hb d6_order_52 rfl (lv_at hl 0 rfl) ?_
                refine sr_vp C0 hB (m6_isPharmacistIn hX  ) (hX.1 0 (by decide)) cf_0 ml_6_105 im_6_isPharmacistIn se_6_isPharmacistIn in_6 cd_6_isPharmacistIn hd6_isPharmacistIn ⟨⟨rfl, rfl⟩, by decide, by decide⟩ ⟨Nat.zero_le _, Nat.zero_le _⟩ hl.1 rfl (Nat.le_of_ble_eq_true rfl) d6_order_53 ?_
                refine lv_if_ne (tgt := 62) hx hb d6_order_56 (by decide) (fun c_8 => ?_) (fun c_8 => ?_)
                · refine lv_aload_n hx hb d6_order_62 rfl (lv_at hl 0 rfl) ?_
                  refine sr_get (v := .int (S 0 0 13)) hx hb hw hown hK hB 13 (hX.1 0 (by decide)) cf_0 us6 (by decide) fl_6_70 (rfl) d6_order_63 ?_
                  refine lv_bipush (v := 60) hx hb d6_order_66 (by decide) ?_
                  refine lv_icmp_lt (tgt := 74) hx hb d6_order_68 (by decide) (fun c_9 => ?_) (fun c_9 => ?_)
                  · refine lv_aload_n hx hb d6_order_74 rfl (lv_at hl 0 rfl) ?_
                    refine sr_get (v := .int (S 0 0 13)) hx hb hw hown hK hB 13 (hX.1 0 (by decide)) cf_0 us6 (by decide) fl_6_70 (rfl) d6_order_75 ?_
                    refine lv_istore (lv' := [(5, .int (S 0 0 13)), (0, .ref (ad 0 0)), (1, .int x1), (2, .int x2), (3, .int x3), (4, .int x4)]) hx hb d6_order_78 hl (by decide) rfl (fun ls hl => ?_)
                    refine lv_aload_n hx hb d6_order_80 rfl (lv_at hl 1 rfl) ?_
                    refine sr_get (v := .ref (ad 4 0)) hx hb hw hown hK hB 3 (hX.1 0 (by decide)) cf_0 us6 (by decide) fl_6_29 (rfl) d6_order_81 ?_
                    refine lv_iload hx hb d6_order_84 (lv_at hl 0 rfl) ?_
                    have hC : c_B D aC ad X (a_Z ad X sz) S A G [] s.heap s.heap [] := ⟨hB, hLc, fun q h => (by cases h), List.nodup_nil⟩
                    have hnx : ¬ X 14 ((S 0 0 13).toNatClampNeg) := fun h => hXG _ h (hgn _ (by have := cl_i hoc.1; omega))
                    refine cr_new (ci := 3) (fs := [.int 0, .int 0, .int 0, .int 0, .int 0, .int 0, .int 0]) hx hb hw hown hK hC hZn us3 tk3 cl_6_27 it_3 in_3 rfl (fun j hj => by rcases (show j = 0 ∨ j = 1 ∨ j = 2 ∨ j = 3 ∨ j = 4 ∨ j = 5 ∨ j = 6 by omega) with rfl | rfl | rfl | rfl | rfl | rfl | rfl <;> rfl) (by decide) (by decide) d6_order_86 (fun q H eq hC => ?_)
                    refine lv_dup hx hb d6_order_89 rfl ?_
                    refine lv_iload_n hx hb d6_order_90 rfl (lv_at hl 2 rfl) ?_
                    refine lv_iload_n hx hb d6_order_91 rfl (lv_at hl 3 rfl) ?_
                    refine lv_iload_n hx hb d6_order_92 rfl (lv_at hl 4 rfl) ?_
                    refine lv_iload hx hb d6_order_93 (lv_at hl 5 rfl) ?_
                    refine cr_init (va_runI (Ts := wall) (As := [.int x1, .int x2, .int x3, .int x4]) (rest := [.ref q, .int (S 0 0 13), .ref (ad 4 0)]) ⟨hx, hb, hml, hown, hw⟩ (m3_init q H.size x1 x2 x3 x4 ) (cwI 4 hw (wall_in0 cd_3_init) rfl rfl rfl (hw _ in_3) (hw _ ml_6_108) (hw _ im_3_init) rfl hd3_init ⟨by decide, by decide⟩) ⟨c_blind (fun _ _ _ _ h => h), c_pre hK (hC.2.2.1 _ List.mem_cons_self).1 (fun _ _ => trivial)⟩ rfl rfl hl.1 rfl (lv_room (Nat.le_of_ble_eq_true rfl)) d6_order_95 ⟨by decide, by decide⟩) hC hZn (fun w1 H locs hw1 hC => ?_)
                    subst hw1
                    have hcell := (hC.2.2.1 _ List.mem_cons_self).1
                    have hC := c_abs hC 14 ((S 0 0 13).toNatClampNeg) hnx (upO S 14 ((S 0 0 13).toNatClampNeg) [x1, x3, x4, x2, 0, 0, 0]) A G (fun f n k h => upO_n (fun z => hnx (by rw [← z.1, ← z.2]; exact h))) (fun _ _ _ _ => rfl) (fun _ _ _ _ => rfl) (c_cell (f0 := 14) (n0 := ((S 0 0 13).toNatClampNeg)) hcell ⟨rfl, rfl, rfl, rfl⟩ adx_s (fun k hk => by unfold s_fv; rw [if_pos (fr_14 k), upO_s]; rcases (show k = 0 ∨ k = 1 ∨ k = 2 ∨ k = 3 ∨ k = 4 ∨ k = 5 ∨ k = 6 by omega) with rfl | rfl | rfl | rfl | rfl | rfl | rfl <;> rfl)) (fun _ k _ h => absurd (fr_14 k) h) (fun h => absurd h (by decide))
                    refine sr_aast (f := 4) (n := 0) (u := ((S 0 0 13).toNatClampNeg)) hx hb hK hC.1 (Or.inl (hX.1 4 (by decide))) rfl rfl (Or.inr ⟨rfl, rfl⟩) cf_14 (fun n1 h => h.elim (hun n1) (fun z => absurd z.1 (by decide))) (by (refine vp_in_iff.mpr ?_); (show 0 ≤ (S 0 0 13).toInt ∧ (S 0 0 13).toInt < ((60 : Nat) : Int)); (have kc_9 := lt_i c_9); (have l0 : (0 : Int32).toInt = 0 := rfl); (have l13 : (13 : Int32).toInt = 13 := rfl); (have l60 : (60 : Int32).toInt = 60 := rfl);  omega) rfl adx_s.symm d6_order_98 (fun H locs hB => ?_)
                    have hX1 := xC_o (n0 := (S 0 0 13).toNatClampNeg) hX
                    refine lv_aload_n hx hb d6_order_99 rfl (lv_at hl 1 rfl) ?_
                    refine lv_dup hx hb d6_order_100 rfl ?_
                    refine sr_get (ad := adx ad 14 ((S 0 0 13).toNatClampNeg) q) (f := 0) (n := 0) (v := .int (S 0 0 13)) hx hb hw hown hK hB 13 (hX1.1 0 (by decide)) cf_0 us6 (by decide) fl_6_70 rfl d6_order_101 ?_
                    refine lv_iconst (v := 1) hx hb d6_order_104 (by decide) ?_
                    refine lv_iadd hx hb d6_order_105 ?_
                    refine sr_put (ad := adx ad 14 ((S 0 0 13).toNatClampNeg) q) (f := 0) (n := 0) hx hb hw hown hK hB 13 (hX1.1 0 (by decide)) cf_0 us6 tk6 nm6 (by decide) fl_6_70 rfl rfl rfl rfl d6_order_106 (fun H locs hB => ?_)
                    refine lv_aload_n hx hb d6_order_109 rfl (lv_at hl 1 rfl) ?_
                    refine sr_vv (ad := adx ad 14 ((S 0 0 13).toNatClampNeg) q) (f := 0) (n := 0) C0 hB (m6_accept hX1 ) (hX1.1 0 (by decide)) cf_0 ml_6_98 im_6_accept se_6_accept in_6 cd_6_accept hd6_accept ⟨⟨rfl, rfl⟩, by decide, by decide⟩ ⟨by decide, by decide⟩ hl.1 rfl (Nat.le_of_ble_eq_true rfl) d6_order_110 (fun H locs hB => ?_)
                    refine lv_iload hx hb d6_order_113 (lv_at hl 0 rfl) ?_
                    exact se_a1 (ad0 := ad) (X0 := X) (G0 := G) (n := (S 0 0 13).toNatClampNeg) C0 rfl rfl (fun f n h => adx_o hnx h) hB (by rw [if_neg c_1, if_neg c_2, if_neg c_3, if_neg c_4, if_neg c_5, if_pos c_6, if_neg c_7, if_neg c_8, if_pos c_9] at hO; exact hO) d6_order_115
                  · refine lv_bipush (v := (-8)) hx hb d6_order_71 (by decide) ?_
                    exact se_a0 C0 hB (by rw [if_neg c_1, if_neg c_2, if_neg c_3, if_neg c_4, if_neg c_5, if_pos c_6, if_neg c_7, if_neg c_8, if_neg c_9] at hO; exact hO) d6_order_73
                · refine lv_bipush (v := (-3)) hx hb d6_order_59 (by decide) ?_
                  exact se_a0 C0 hB (by rw [if_neg c_1, if_neg c_2, if_neg c_3, if_neg c_4, if_neg c_5, if_pos c_6, if_neg c_7, if_pos c_8] at hO; exact hO) d6_order_61
              · refine lv_bipush (v := (-2)) hx hb d6_order_49 (by decide) ?_
                exact se_a0 C0 hB (by rw [if_neg c_1, if_neg c_2, if_neg c_3, if_neg c_4, if_neg c_5, if_pos c_6, if_pos c_7] at hO; exact hO) d6_order_51
            · refine lv_iconst (v := (-1)) hx hb d6_order_39 (by decide) ?_
              exact se_a0 C0 hB (by rw [if_neg c_1, if_neg c_2, if_neg c_3, if_neg c_4, if_neg c_5, if_neg c_6] at hO; exact hO) d6_order_40
theorem hd6_order : y6_order.cls = R6 ∧ y6_order.cls ≠ "java/lang/invoke/MethodHandle" ∧ y6_order.cls ≠ "java/lang/invoke/VarHandle" ∧ (parseMethodDescriptor y6_order.desc).map (fun d => d.parameters.length) = some 4 := ⟨rfl, by decide, by decide, by decide +kernel⟩
theorem m6_order {l : Launch} {D : va_G} {aC : Nat → ClassId} {ad : Nat → Nat → Nat} {X : Nat → Nat → Prop} {S A : sS} {G : sG} (sz : Nat) (hX : xC X G) (hLc : s_L X G) (hXG : ∀ n, X 14 n → ¬ G 4 n = none) (hun : ∀ n1, X 4 n1 → n1 = 0) (x1 : Int32) (x2 : Int32) (x3 : Int32) (x4 : Int32) (hoc : 0 ≤ (S 0 0 13).toInt ∧ (S 0 0 13).toInt ≤ 60) (hgn : ∀ i : Nat, (S 0 0 13).toInt ≤ (i : Int) → G 4 i = none) : Met l y6_order (.code y6_order b6_order 6 (some .int) :: wall) { frames := 4, cells := 1, slots := 7, locals := 200 } (a_Pc [.ref (ad 0 0), .int x1, .int x2, .int x3, .int x4] D aC ad X S A G sz) (a_Q D aC ad X G 14 4 (O6_order S A G x1 x2 x3 x4) sz) 1 7 (a_Z ad X sz) :=
  a_met (by decide) rfl (Nat.le_of_ble_eq_true rfl) (fun p e s m args below meth c hsz C0 hB ls hl => k6_order_0 hsz C0 hB hX hLc hXG hun x1 x2 x3 x4 hoc hgn hl rfl)
