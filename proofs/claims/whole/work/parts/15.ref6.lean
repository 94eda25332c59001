def O7_reconcile_176 (S A : sS) (G : sG) (z1 : Int32) (z2 : Int32) : Int32 × sS × sS := (S 20 0 37, S, A)
def O7_reconcile_84 (G : sG)  : Nat → sS → sS → Int32 → Nat → Int32 × sS × sS
  | 0, S, A, _, _ => (0, S, A)
  | r + 1, S, A, z1, j2 => if 64 ≤ nI j2 then O7_reconcile_176 (O7_note S A G 6 (-1) (S 20 0 37) (-1)).1 (O7_note S A G 6 (-1) (S 20 0 37) (-1)).2 G z1 (nI j2) else if A 35 0 j2 < 0 then O7_reconcile_84 G  r S (up3 A 40 0 j2 0) z1 (j2 + 1) else if A 39 0 j2 = 0 then if A 32 0 ((A 35 0 j2).toNatClampNeg) = 0 then O7_reconcile_84 G  r S (up3 A 40 0 j2 0) z1 (j2 + 1) else if A 40 0 j2 = 0 then O7_reconcile_84 G  r (up3 S 20 0 37 ((S 20 0 37) + 1)) (up3 (up3 A 59 0 ((S 20 0 37).toNatClampNeg) (nI j2)) 40 0 j2 0) z1 (j2 + 1) else O7_reconcile_84 G  r S (up3 A 40 0 j2 0) z1 (j2 + 1) else O7_reconcile_84 G  r (up3 S 20 0 37 ((S 20 0 37) + 1)) (up3 (up3 A 59 0 ((S 20 0 37).toNatClampNeg) (nI j2)) 40 0 j2 0) z1 (j2 + 1)
def O7_reconcile (S A : sS) (G : sG)  : Int32 × sS × sS := if 0 ≤ S 20 0 6 then if A 23 0 ((S 20 0 6).toNatClampNeg) = 2 then ((-3), S, A) else if S 20 0 27 < 0 then if V7_isWatched S A G  = 0 then ((-5), S, A) else if S 20 0 34 < 290 then O7_reconcile_84 G  65 (up3 S 20 0 37 0) A 0 0 else ((-8), S, A) else ((-4), S, A) else ((-2), S, A)
set_option maxRecDepth 100000 in
set_option maxHeartbeats 4000000 in
theorem k7_reconcile_176 {p : Program} {l : Launch} {e : Env} {s : State} {m : MethodId} {args : Array Value} {below : List Frame} {meth : Method} {c : Code} {D : va_G} {aC : Nat → ClassId} {ad : Nat → Nat → Nat} {X : Nat → Nat → Prop} {S A : sS} {G : sG} {H : Heap} {locs : List Loc} (C0 : s_C p s m args meth c b7_reconcile 3 R7 (some .int) D aC) (hB : s_B D aC ad X (s_N ad X) S A G s.heap H locs) (hX : xR X) (z1 : Int32) (z2 : Int32)  {ls : Array Slot} (hl : lv_has ls 3 [(0, .ref (ad 20 0)), (1, .int z1), (2, .int z2)]) {o : Int32 × sS × sS} (hO : O7_reconcile_176 S A G z1 z2 = o) : W p l e (rmk 1) s m args below meth c H locs 0 0 (MQ below (s_Qi D aC ad X G o) args s 0 0 (s_N ad X)) (F0 m 176 ls []) := by
  obtain ⟨hx, hb, hml, hown, hw, hK, hr, hlocks⟩ := id C0
  unfold O7_reconcile_176 at hO
  refine lv_aload_n hx hb d7_reconcile_176 rfl (lv_at hl 0 rfl) ?_
  refine sr_get (v := .int (S 20 0 37)) hx hb hw hown hK hB 37 (hX 20 (by decide)) cf_20 us7 (by decide) fl_7_188 (rfl) d7_reconcile_177 ?_
  exact se_i C0 hB (hO) d7_reconcile_180
set_option maxRecDepth 100000 in
set_option maxHeartbeats 4000000 in
theorem k7_reconcile_84 {p : Program} {l : Launch} {e : Env} {s : State} {m : MethodId} {args : Array Value} {below : List Frame} {meth : Method} {c : Code} {D : va_G} {aC : Nat → ClassId} {ad : Nat → Nat → Nat} {X : Nat → Nat → Prop} {G : sG} (C0 : s_C p s m args meth c b7_reconcile 3 R7 (some .int) D aC) (hX : xR X)  : ∀ (r : Nat) {S A : sS} {H : Heap} {locs : List Loc} (hB : s_B D aC ad X (s_N ad X) S A G s.heap H locs) (z1 : Int32) (j2 : Nat) (hj : j2 ≤ 64) (hr3 : 64 < j2 + r) (hmm : 0 ≤ (S 20 0 37).toInt ∧ (S 20 0 37).toInt ≤ (j2 : Int)) (hen3 : 0 ≤ (S 20 0 34).toInt ∧ (S 20 0 34).toInt < 300) (hit : ∀ i, i < 64 → (A 35 0 i).toInt < 32) {ls : Array Slot} (hl : lv_has ls 3 [(0, .ref (ad 20 0)), (1, .int z1), (2, .int (nI j2))]) {o : Int32 × sS × sS} (hO : O7_reconcile_84 G  r S A z1 j2 = o), W p l e (rmk 1) s m args below meth c H locs 0 0 (MQ below (s_Qi D aC ad X G o) args s 0 0 (s_N ad X)) (F0 m 84 ls []) := by
  obtain ⟨hx, hb, hml, hown, hw, hK, hr, hlocks⟩ := id C0
  intro r
  induction r with
  | zero =>
    intro S A H locs hB z1 j2 hj hr3 hmm hen3 hit ls hl o hO
    exact absurd hr3 (by omega)
  | succ r ih =>
    intro S A H locs hB z1 j2 hj hr3 hmm hen3 hit ls hl o hO
    rw [O7_reconcile_84] at hO
    refine lv_iload_n hx hb d7_reconcile_84 rfl (lv_at hl 2 rfl) ?_
    refine lv_bipush (v := 64) hx hb d7_reconcile_85 (by decide) ?_
    refine lv_icmp_ge (tgt := 164) hx hb d7_reconcile_87 (by decide) (fun c_1 => ?_) (fun c_1 => ?_)
    · refine lv_aload_n hx hb d7_reconcile_164 rfl (lv_at hl 0 rfl) ?_
      refine lv_bipush (v := 6) hx hb d7_reconcile_165 (by decide) ?_
      refine lv_iconst (v := (-1)) hx hb d7_reconcile_167 (by decide) ?_
      refine lv_aload_n hx hb d7_reconcile_168 rfl (lv_at hl 0 rfl) ?_
      refine sr_get (v := .int (S 20 0 37)) hx hb hw hown hK hB 37 (hX 20 (by decide)) cf_20 us7 (by decide) fl_7_188 (rfl) d7_reconcile_169 ?_
      refine lv_iconst (v := (-1)) hx hb d7_reconcile_172 (by decide) ?_
      refine sr_vv C0 hB (m7_note hX 6 (-1) (S 20 0 37) (-1) (by (have lx1 := ln1); (have aj2 := nI_toInt (n := j2) (by omega)); (have kc_1 := le_i c_1); (have l64 : (64 : Int32).toInt = 64 := rfl);  first | assumption | omega)) (hX 20 (by decide)) cf_20 ml_7_180 im_7_note se_7_note in_7 cd_7_note hd7_note ⟨⟨rfl, rfl⟩, by decide, by decide⟩ ⟨Nat.zero_le _, Nat.zero_le _⟩ hl.1 rfl (Nat.le_of_ble_eq_true rfl) d7_reconcile_173 (fun H locs hB => ?_)
      exact k7_reconcile_176 C0 hB hX z1 (nI j2)  (lv_sub hl [0, 1, 2] rfl) (by rw [if_pos c_1] at hO; exact hO)
    · refine lv_aload_n hx hb d7_reconcile_90 rfl (lv_at hl 0 rfl) ?_
      refine sr_get (v := .ref (ad 35 0)) hx hb hw hown hK hB 14 (hX 20 (by decide)) cf_20 us7 (by decide) fl_7_45 (rfl) d7_reconcile_91 ?_
      refine lv_iload_n hx hb d7_reconcile_94 rfl (lv_at hl 2 rfl) ?_
      refine sr_iald (v := A 35 0 j2) hx hb hK hB (hX 35 (by decide)) rfl rfl (vp_in_nI (show j2 < 64 by (have aj2 := nI_toInt (n := j2) (by omega)); (have kc_1 := nle_i c_1); (have l64 : (64 : Int32).toInt = 64 := rfl);  omega) (by decide)) d7_reconcile_95 (s_cl (by omega)) ?_
      refine lv_if_lt (tgt := 151) hx hb d7_reconcile_96 (by decide) (fun c_2 => ?_) (fun c_2 => ?_)
      · refine lv_aload_n hx hb d7_reconcile_151 rfl (lv_at hl 0 rfl) ?_
        refine sr_get (v := .ref (ad 40 0)) hx hb hw hown hK hB 19 (hX 20 (by decide)) cf_20 us7 (by decide) fl_7_60 (rfl) d7_reconcile_152 ?_
        refine lv_iload_n hx hb d7_reconcile_155 rfl (lv_at hl 2 rfl) ?_
        refine lv_iconst (v := 0) hx hb d7_reconcile_156 (by decide) ?_
        refine sr_zast hx hb hK hB (hX 40 (by decide)) rfl rfl rfl (vp_in_nI (show j2 < 64 by (have aj2 := nI_toInt (n := j2) (by omega)); (have kc_1 := nle_i c_1); (have l64 : (64 : Int32).toInt = 64 := rfl);  omega) (by decide)) d7_reconcile_157 (fun H locs hB => ?_)
        rw [nI_clamp (show j2 < 2 ^ 31 by omega)] at hB
        refine lv_iinc (v := nI (j2 + 1)) (lv' := [(2, .int (nI (j2 + 1))), (0, .ref (ad 20 0)), (1, .int z1)]) hx hb d7_reconcile_158 hl (k := 2) rfl (nI_1 j2) (by decide) rfl (fun ls hl => ?_)
        refine lv_goto (tgt := 84) hx hb d7_reconcile_161 (by decide) ?_
        exact ih hB z1 (j2 + 1) (by (have aj2 := nI_toInt (n := j2) (by omega)); (have kc_1 := nle_i c_1); (have l64 : (64 : Int32).toInt = 64 := rfl);  omega) (by (have aj2 := nI_toInt (n := j2) (by omega)); (have kc_1 := nle_i c_1); (have l64 : (64 : Int32).toInt = 64 := rfl);  omega) (by (have aj2 := nI_toInt (n := j2) (by omega)); (have kc_1 := nle_i c_1); (have l64 : (64 : Int32).toInt = 64 := rfl);  first | ((show 0 ≤ (S 20 0 37).toInt ∧ (S 20 0 37).toInt ≤ ((j2 + 1 : Nat) : Int)); omega) | ((rw [up3_s]); (have l1 : (1 : Int32).toInt = 1 := rfl); (have q := add_i (x := S 20 0 37) (y := 1) (by omega) (by omega)); omega)) (by (have aj2 := nI_toInt (n := j2) (by omega)); (have kc_1 := nle_i c_1); (have l64 : (64 : Int32).toInt = 64 := rfl);  exact hen3) (by (have aj2 := nI_toInt (n := j2) (by omega)); (have kc_1 := nle_i c_1); (have l64 : (64 : Int32).toInt = 64 := rfl);  exact fun i hi => hit i hi) (lv_sub hl [1, 2, 0] rfl) (by rw [if_neg c_1, if_pos c_2] at hO; exact hO)
      · refine lv_aload_n hx hb d7_reconcile_99 rfl (lv_at hl 0 rfl) ?_
        refine sr_get (v := .ref (ad 39 0)) hx hb hw hown hK hB 18 (hX 20 (by decide)) cf_20 us7 (by decide) fl_7_57 (rfl) d7_reconcile_100 ?_
        refine lv_iload_n hx hb d7_reconcile_103 rfl (lv_at hl 2 rfl) ?_
        refine sr_iald (v := A 39 0 j2) hx hb hK hB (hX 39 (by decide)) rfl rfl (vp_in_nI (show j2 < 64 by (have aj2 := nI_toInt (n := j2) (by omega)); (have kc_1 := nle_i c_1); (have l64 : (64 : Int32).toInt = 64 := rfl);  omega) (by decide)) d7_reconcile_104 (s_cl (by omega)) ?_
        refine lv_if_ne (tgt := 131) hx hb d7_reconcile_105 (by decide) (fun c_3 => ?_) (fun c_3 => ?_)
        · refine lv_aload_n hx hb d7_reconcile_131 rfl (lv_at hl 0 rfl) ?_
          refine sr_get (v := .ref (ad 59 0)) hx hb hw hown hK hB 38 (hX 20 (by decide)) cf_20 us7 (by decide) fl_7_90 (rfl) d7_reconcile_132 ?_
          refine lv_aload_n hx hb d7_reconcile_135 rfl (lv_at hl 0 rfl) ?_
          refine sr_get (v := .int (S 20 0 37)) hx hb hw hown hK hB 37 (hX 20 (by decide)) cf_20 us7 (by decide) fl_7_188 (rfl) d7_reconcile_136 ?_
          refine lv_iload_n hx hb d7_reconcile_139 rfl (lv_at hl 2 rfl) ?_
          refine sr_iast hx hb hK hB (hX 59 (by decide)) rfl rfl (by (refine vp_in_iff.mpr ?_); (show 0 ≤ (S 20 0 37).toInt ∧ (S 20 0 37).toInt < ((64 : Nat) : Int)); (have aj2 := nI_toInt (n := j2) (by omega)); (have kc_1 := nle_i c_1); (have l64 : (64 : Int32).toInt = 64 := rfl);  omega) d7_reconcile_140 (fun H locs hB => ?_)
          refine lv_aload_n hx hb d7_reconcile_141 rfl (lv_at hl 0 rfl) ?_
          refine lv_dup hx hb d7_reconcile_142 rfl ?_
          refine sr_get (v := .int (S 20 0 37)) hx hb hw hown hK hB 37 (hX 20 (by decide)) cf_20 us7 (by decide) fl_7_188 (rfl) d7_reconcile_143 ?_
          refine lv_iconst (v := 1) hx hb d7_reconcile_146 (by decide) ?_
          refine lv_iadd hx hb d7_reconcile_147 ?_
          refine sr_put hx hb hw hown hK hB 37 (hX 20 (by decide)) cf_20 us7 tk7 nm7 (by decide) fl_7_188 rfl rfl rfl rfl d7_reconcile_148 (fun H locs hB => ?_)
          refine lv_aload_n hx hb d7_reconcile_151 rfl (lv_at hl 0 rfl) ?_
          refine sr_get (v := .ref (ad 40 0)) hx hb hw hown hK hB 19 (hX 20 (by decide)) cf_20 us7 (by decide) fl_7_60 (rfl) d7_reconcile_152 ?_
          refine lv_iload_n hx hb d7_reconcile_155 rfl (lv_at hl 2 rfl) ?_
          refine lv_iconst (v := 0) hx hb d7_reconcile_156 (by decide) ?_
          refine sr_zast hx hb hK hB (hX 40 (by decide)) rfl rfl rfl (vp_in_nI (show j2 < 64 by (have aj2 := nI_toInt (n := j2) (by omega)); (have kc_1 := nle_i c_1); (have l64 : (64 : Int32).toInt = 64 := rfl);  omega) (by decide)) d7_reconcile_157 (fun H locs hB => ?_)
          rw [nI_clamp (show j2 < 2 ^ 31 by omega)] at hB
          refine lv_iinc (v := nI (j2 + 1)) (lv' := [(2, .int (nI (j2 + 1))), (0, .ref (ad 20 0)), (1, .int z1)]) hx hb d7_reconcile_158 hl (k := 2) rfl (nI_1 j2) (by decide) rfl (fun ls hl => ?_)
          refine lv_goto (tgt := 84) hx hb d7_reconcile_161 (by decide) ?_
          exact ih hB z1 (j2 + 1) (by (have aj2 := nI_toInt (n := j2) (by omega)); (have kc_1 := nle_i c_1); (have l64 : (64 : Int32).toInt = 64 := rfl);  omega) (by (have aj2 := nI_toInt (n := j2) (by omega)); (have kc_1 := nle_i c_1); (have l64 : (64 : Int32).toInt = 64 := rfl);  omega) (by (have aj2 := nI_toInt (n := j2) (by omega)); (have kc_1 := nle_i c_1); (have l64 : (64 : Int32).toInt = 64 := rfl);  first | ((show 0 ≤ (S 20 0 37).toInt ∧ (S 20 0 37).toInt ≤ ((j2 + 1 : Nat) : Int)); omega) | ((rw [up3_s]); (have l1 : (1 : Int32).toInt = 1 := rfl); (have q := add_i (x := S 20 0 37) (y := 1) (by omega) (by omega)); omega)) (by (have aj2 := nI_toInt (n := j2) (by omega)); (have kc_1 := nle_i c_1); (have l64 : (64 : Int32).toInt = 64 := rfl);  exact hen3) (by (have aj2 := nI_toInt (n := j2) (by omega)); (have kc_1 := nle_i c_1); (have l64 : (64 : Int32).toInt = 64 := rfl);  exact fun i hi => hit i hi) (lv_sub hl [1, 2, 0] rfl) (by rw [if_neg c_1, if_neg c_2, if_neg c_3] at hO; exact hO)
        · refine lv_aload_n hx hb d7_reconcile_108 rfl (lv_at hl 0 rfl) ?_
          refine sr_get (v := .ref (ad 32 0)) hx hb hw hown hK hB 11 (hX 20 (by decide)) cf_20 us7 (by decide) fl_7_36 (rfl) d7_reconcile_109 ?_
          refine lv_aload_n hx hb d7_reconcile_112 rfl (lv_at hl 0 rfl) ?_
          refine sr_get (v := .ref (ad 35 0)) hx hb hw hown hK hB 14 (hX 20 (by decide)) cf_20 us7 (by decide) fl_7_45 (rfl) d7_reconcile_113 ?_
          refine lv_iload_n hx hb d7_reconcile_116 rfl (lv_at hl 2 rfl) ?_
          refine sr_iald (v := A 35 0 j2) hx hb hK hB (hX 35 (by decide)) rfl rfl (vp_in_nI (show j2 < 64 by (have aj2 := nI_toInt (n := j2) (by omega)); (have kc_1 := nle_i c_1); (have l64 : (64 : Int32).toInt = 64 := rfl);  omega) (by decide)) d7_reconcile_117 (s_cl (by omega)) ?_
          refine sr_zald (v := A 32 0 ((A 35 0 j2).toNatClampNeg)) hx hb hK hB (hX 32 (by decide)) rfl rfl (by (refine vp_in_iff.mpr ?_); (show 0 ≤ (A 35 0 j2).toInt ∧ (A 35 0 j2).toInt < ((32 : Nat) : Int)); (have aj2 := nI_toInt (n := j2) (by omega)); (have kc_1 := nle_i c_1); (have kc_2 := nlt_i c_2); (have l0 : (0 : Int32).toInt = 0 := rfl); (have l35 : (35 : Int32).toInt = 35 := rfl); (have l64 : (64 : Int32).toInt = 64 := rfl); (have qi := hit j2 (by omega));  omega) d7_reconcile_118 (rfl) ?_
          refine lv_if_eq (tgt := 151) hx hb d7_reconcile_119 (by decide) (fun c_4 => ?_) (fun c_4 => ?_)
          · refine lv_aload_n hx hb d7_reconcile_151 rfl (lv_at hl 0 rfl) ?_
            refine sr_get (v := .ref (ad 40 0)) hx hb hw hown hK hB 19 (hX 20 (by decide)) cf_20 us7 (by decide) fl_7_60 (rfl) d7_reconcile_152 ?_
            refine lv_iload_n hx hb d7_reconcile_155 rfl (lv_at hl 2 rfl) ?_
            refine lv_iconst (v := 0) hx hb d7_reconcile_156 (by decide) ?_
            refine sr_zast hx hb hK hB (hX 40 (by decide)) rfl rfl rfl (vp_in_nI (show j2 < 64 by (have aj2 := nI_toInt (n := j2) (by omega)); (have kc_1 := nle_i c_1); (have l64 : (64 : Int32).toInt = 64 := rfl);  omega) (by decide)) d7_reconcile_157 (fun H locs hB => ?_)
            rw [nI_clamp (show j2 < 2 ^ 31 by omega)] at hB
            refine lv_iinc (v := nI (j2 + 1)) (lv' := [(2, .int (nI (j2 + 1))), (0, .ref (ad 20 0)), (1, .int z1)]) hx hb d7_reconcile_158 hl (k := 2) rfl (nI_1 j2) (by decide) rfl (fun ls hl => ?_)
            refine lv_goto (tgt := 84) hx hb d7_reconcile_161 (by decide) ?_
            exact ih hB z1 (j2 + 1) (by (have aj2 := nI_toInt (n := j2) (by omega)); (have kc_1 := nle_i c_1); (have l64 : (64 : Int32).toInt = 64 := rfl);  omega) (by (have aj2 := nI_toInt (n := j2) (by omega)); (have kc_1 := nle_i c_1); (have l64 : (64 : Int32).toInt = 64 := rfl);  omega) (by (have aj2 := nI_toInt (n := j2) (by omega)); (have kc_1 := nle_i c_1); (have l64 : (64 : Int32).toInt = 64 := rfl);  first | ((show 0 ≤ (S 20 0 37).toInt ∧ (S 20 0 37).toInt ≤ ((j2 + 1 : Nat) : Int)); omega) | ((rw [up3_s]); (have l1 : (1 : Int32).toInt = 1 := rfl); (have q := add_i (x := S 20 0 37) (y := 1) (by omega) (by omega)); omega)) (by (have aj2 := nI_toInt (n := j2) (by omega)); (have kc_1 := nle_i c_1); (have l64 : (64 : Int32).toInt = 64 := rfl);  exact hen3) (by (have aj2 := nI_toInt (n := j2) (by omega)); (have kc_1 := nle_i c_1); (have l64 : (64 : Int32).toInt = 64 := rfl);  exact fun i hi => hit i hi) (lv_sub hl [1, 2, 0] rfl) (by rw [if_neg c_1, if_neg c_2, if_pos c_3, if_pos c_4] at hO; exact hO)
          · refine lv_aload_n hx hb d7_reconcile_122 rfl (lv_at hl 0 rfl) ?_
            refine sr_get (v := .ref (ad 40 0)) hx hb hw hown hK hB 19 (hX 20 (by decide)) cf_20 us7 (by decide) fl_7_60 (rfl) d7_reconcile_123 ?_
            refine lv_iload_n hx hb d7_reconcile_126 rfl (lv_at hl 2 rfl) ?_
            refine sr_zald (v := A 40 0 j2) hx hb hK hB (hX 40 (by decide)) rfl rfl (vp_in_nI (show j2 < 64 by (have aj2 := nI_toInt (n := j2) (by omega)); (have kc_1 := nle_i c_1); (have l64 : (64 : Int32).toInt = 64 := rfl);  omega) (by decide)) d7_reconcile_127 (s_cl (by omega)) ?_
            refine lv_if_ne (tgt := 151) hx hb d7_reconcile_128 (by decide) (fun c_5 => ?_) (fun c_5 => ?_)
            · refine lv_aload_n hx hb d7_reconcile_151 rfl (lv_at hl 0 rfl) ?_
              refine sr_get (v := .ref (ad 40 0)) hx hb hw hown hK hB 19 (hX 20 (by decide)) cf_20 us7 (by decide) fl_7_60 (rfl) d7_reconcile_152 ?_
              refine lv_iload_n hx hb d7_reconcile_155 rfl (lv_at hl 2 rfl) ?_
              refine lv_iconst (v := 0) hx hb d7_reconcile_156 (by decide) ?_
              refine sr_zast hx hb hK hB (hX 40 (by decide)) rfl rfl rfl (vp_in_nI (show j2 < 64 by (have aj2 := nI_toInt (n := j2) (by omega)); (have kc_1 := nle_i c_1); (have l64 : (64 : Int32).toInt = 64 := rfl);  omega) (by decide)) d7_reconcile_157 (fun H locs hB => ?_)
              rw [nI_clamp (show j2 < 2 ^ 31 by omega)] at hB
              refine lv_iinc (v := nI (j2 + 1)) (lv' := [(2, .int (nI (j2 + 1))), (0, .ref (ad 20 0)), (1, .int z1)]) hx hb d7_reconcile_158 hl (k := 2) rfl (nI_1 j2) (by decide) rfl (fun ls hl => ?_)
              refine lv_goto (tgt := 84) hx hb d7_reconcile_161 (by decide) ?_
              exact ih hB z1 (j2 + 1) (by (have aj2 := nI_toInt (n := j2) (by omega)); (have kc_1 := nle_i c_1); (have l64 : (64 : Int32).toInt = 64 := rfl);  omega) (by (have aj2 := nI_toInt (n := j2) (by omega)); (have kc_1 := nle_i c_1); (have l64 : (64 : Int32).toInt = 64 := rfl);  omega) (by (have aj2 := nI_toInt (n := j2) (by omega)); (have kc_1 := nle_i c_1); (have l64 : (64 : Int32).toInt = 64 := rfl);  first | ((show 0 ≤ (S 20 0 37).toInt ∧ (S 20 0 37).toInt ≤ ((j2 + 1 : Nat) : Int)); omega) | ((rw [up3_s]); (have l1 : (1 : Int32).toInt = 1 := rfl); (have q := add_i (x := S 20 0 37) (y := 1) (by omega) (by omega)); omega)) (by (have aj2 := nI_toInt (n := j2) (by omega)); (have kc_1 := nle_i c_1); (have l64 : (64 : Int32).toInt = 64 := rfl);  exact hen3) (by (have aj2 := nI_toInt (n := j2) (by omega)); (have kc_1 := nle_i c_1); (have l64 : (64 : Int32).toInt = 64 := rfl);  exact fun i hi => hit i hi) (lv_sub hl [1, 2, 0] rfl) (by rw [if_neg c_1, if_neg c_2, if_pos c_3, if_neg c_4, if_neg c_5] at hO; exact hO)
            · refine lv_aload_n hx hb d7_reconcile_131 rfl (lv_at hl 0 rfl) ?_
              refine sr_get (v := .ref (ad 59 0)) hx hb hw hown hK hB 38 (hX 20 (by decide)) cf_20 us7 (by decide) fl_7_90 (rfl) d7_reconcile_132 ?_
              refine lv_aload_n hx hb d7_reconcile_135 rfl (lv_at hl 0 rfl) ?_
              refine sr_get (v := .int (S 20 0 37)) hx hb hw hown hK hB 37 (hX 20 (by decide)) cf_20 us7 (by decide) fl_7_188 (rfl) d7_reconcile_136 ?_
              refine lv_iload_n hx hb d7_reconcile_139 rfl (lv_at hl 2 rfl) ?_
              refine sr_iast hx hb hK hB (hX 59 (by decide)) rfl rfl (by (refine vp_in_iff.mpr ?_); (show 0 ≤ (S 20 0 37).toInt ∧ (S 20 0 37).toInt < ((64 : Nat) : Int)); (have aj2 := nI_toInt (n := j2) (by omega)); (have kc_1 := nle_i c_1); (have l64 : (64 : Int32).toInt = 64 := rfl);  omega) d7_reconcile_140 (fun H locs hB => ?_)
              refine lv_aload_n hx hb d7_reconcile_141 rfl (lv_at hl 0 rfl) ?_
              refine lv_dup hx hb d7_reconcile_142 rfl ?_
              refine sr_get (v := .int (S 20 0 37)) hx hb hw hown hK hB 37 (hX 20 (by decide)) cf_20 us7 (by decide) fl_7_188 (rfl) d7_reconcile_143 ?_
              refine lv_iconst (v := 1) hx hb d7_reconcile_146 (by decide) ?_
              refine lv_iadd hx hb d7_reconcile_147 ?_
              refine sr_put hx hb hw hown hK hB 37 (hX 20 (by decide)) cf_20 us7 tk7 nm7 (by decide) fl_7_188 rfl rfl rfl rfl d7_reconcile_148 (fun H locs hB => ?_)
              refine lv_aload_n hx hb d7_reconcile_151 rfl (lv_at hl 0 rfl) ?_
              refine sr_get (v := .ref (ad 40 0)) hx hb hw hown hK hB 19 (hX 20 (by decide)) cf_20 us7 (by decide) fl_7_60 (rfl) d7_reconcile_152 ?_
              refine lv_iload_n hx hb d7_reconcile_155 rfl (lv_at hl 2 rfl) ?_
              refine lv_iconst (v := 0) hx hb d7_reconcile_156 (by decide) ?_
              refine sr_zast hx hb hK hB (hX 40 (by decide)) rfl rfl rfl (vp_in_nI (show j2 < 64 by (have aj2 := nI_toInt (n := j2) (by omega)); (have kc_1 := nle_i c_1); (have l64 : (64 : Int32).toInt = 64 := rfl);  omega) (by decide)) d7_reconcile_157 (fun H locs hB => ?_)
              rw [nI_clamp (show j2 < 2 ^ 31 by omega)] at hB
              refine lv_iinc (v := nI (j2 + 1)) (lv' := [(2, .int (nI (j2 + 1))), (0, .ref (ad 20 0)), (1, .int z1)]) hx hb d7_reconcile_158 hl (k := 2) rfl (nI_1 j2) (by decide) rfl (fun ls hl => ?_)
              refine lv_goto (tgt := 84) hx hb d7_reconcile_161 (by decide) ?_
              exact ih hB z1 (j2 + 1) (by (have aj2 := nI_toInt (n := j2) (by omega)); (have kc_1 := nle_i c_1); (have l64 : (64 : Int32).toInt = 64 := rfl);  omega) (by (have aj2 := nI_toInt (n := j2) (by omega)); (have kc_1 := nle_i c_1); (have l64 : (64 : Int32).toInt = 64 := rfl);  omega) (by (have aj2 := nI_toInt (n := j2) (by omega)); (have kc_1 := nle_i c_1); (have l64 : (64 : Int32).toInt = 64 := rfl);  first | ((show 0 ≤ (S 20 0 37).toInt ∧ (S 20 0 37).toInt ≤ ((j2 + 1 : Nat) : Int)); omega) | ((rw [up3_s]); (have l1 : (1 : Int32).toInt = 1 := rfl); (have q := add_i (x := S 20 0 37) (y := 1) (by omega) (by omega)); omega)) (by (have aj2 := nI_toInt (n := j2) (by omega)); (have kc_1 := nle_i c_1); (have l64 : (64 : Int32).toInt = 64 := rfl);  exact hen3) (by (have aj2 := nI_toInt (n := j2) (by omega)); (have kc_1 := nle_i c_1); (have l64 : (64 : Int32).toInt = 64 := rfl);  exact fun i hi => hit i hi) (lv_sub hl [1, 2, 0] rfl) (by rw [if_neg c_1, if_neg c_2, if_pos c_3, if_neg c_4, if_pos c_5] at hO; exact hO)
set_option maxRecDepth 100000 in
set_option maxHeartbeats 4000000 in
theorem k7_reconcile_0 {p : Program} {l : Launch} {e : Env} {s : State} {m : MethodId} {args : Array Value} {below : List Frame} {meth : Method} {c : Code} {D : va_G} {aC : Nat → ClassId} {ad : Nat → Nat → Nat} {X : Nat → Nat → Prop} {S A : sS} {G : sG} {H : Heap} {locs : List Loc} (C0 : s_C p s m args meth c b7_reconcile 3 R7 (some .int) D aC) (hB : s_B D aC ad X (s_N ad X) S A G s.heap H locs) (hX : xR X)  (hwho : (S 20 0 6).toInt < 16) (hen : 0 ≤ (S 20 0 34).toInt ∧ (S 20 0 34).toInt ≤ 300) (hit : ∀ i, i < 64 → (A 35 0 i).toInt < 32) {ls : Array Slot} (hl : lv_has ls 3 [(0, .ref (ad 20 0))]) {o : Int32 × sS × sS} (hO : O7_reconcile S A G  = o) : W p l e (rmk 1) s m args below meth c H locs 0 0 (MQ below (s_Qi D aC ad X G o) args s 0 0 (s_N ad X)) (F0 m 0 ls []) := by
  obtain ⟨hx, hb, hml, hown, hw, hK, hr, hlocks⟩ := id C0
  unfold O7_reconcile at hO
  refine lv_aload_n hx hb d7_reconcile_0 rfl (lv_at hl 0 rfl) ?_
  refine sr_get (v := .int (S 20 0 6)) hx hb hw hown hK hB 6 (hX 20 (by decide)) cf_20 us7 (by decide) fl_7_26 (rfl) d7_reconcile_1 ?_
  refine lv_if_ge (tgt := 12) hx hb d7_reconcile_4 (by decide) (fun c_1 => ?_) (fun c_1 => ?_)
  · refine lv_aload_n hx hb d7_reconcile_12 rfl (lv_at hl 0 rfl) ?_
    refine sr_get (v := .ref (ad 23 0)) hx hb hw hown hK hB 2 (hX 20 (by decide)) cf_20 us7 (by decide) fl_7_13 (rfl) d7_reconcile_13 ?_
    refine lv_aload_n hx hb d7_reconcile_16 rfl (lv_at hl 0 rfl) ?_
    refine sr_get (v := .int (S 20 0 6)) hx hb hw hown hK hB 6 (hX 20 (by decide)) cf_20 us7 (by decide) fl_7_26 (rfl) d7_reconcile_17 ?_
    refine sr_iald (v := A 23 0 ((S 20 0 6).toNatClampNeg)) hx hb hK hB (hX 23 (by decide)) rfl rfl (by (refine vp_in_iff.mpr ?_); (show 0 ≤ (S 20 0 6).toInt ∧ (S 20 0 6).toInt < ((16 : Nat) : Int)); (have kc_1 := le_i c_1); (have l0 : (0 : Int32).toInt = 0 := rfl); (have l20 : (20 : Int32).toInt = 20 := rfl); (have l6 : (6 : Int32).toInt = 6 := rfl);  omega) d7_reconcile_20 (rfl) ?_
    refine lv_iconst (v := 2) hx hb d7_reconcile_21 (by decide) ?_
    refine lv_icmp_ne (tgt := 30) hx hb d7_reconcile_22 (by decide) (fun c_2 => ?_) (fun c_2 => ?_)
    · refine lv_aload_n hx hb d7_reconcile_30 rfl (lv_at hl 0 rfl) ?_
      refine sr_get (v := .int (S 20 0 27)) hx hb hw hown hK hB 27 (hX 20 (by decide)) cf_20 us7 (by decide) fl_7_81 (rfl) d7_reconcile_31 ?_
      refine lv_if_lt (tgt := 42) hx hb d7_reconcile_34 (by decide) (fun c_3 => ?_) (fun c_3 => ?_)
      · refine lv_aload_n hx hb d7_reconcile_42 rfl (lv_at hl 0 rfl) ?_
        refine sr_vp C0 hB (m7_isWatched hX  ) (hX 20 (by decide)) cf_20 ml_7_143 im_7_isWatched se_7_isWatched in_7 cd_7_isWatched hd7_isWatched ⟨⟨rfl, rfl⟩, by decide, by decide⟩ ⟨Nat.zero_le _, Nat.zero_le _⟩ hl.1 rfl (Nat.le_of_ble_eq_true rfl) d7_reconcile_43 ?_
        refine lv_if_ne (tgt := 54) hx hb d7_reconcile_46 (by decide) (fun c_4 => ?_) (fun c_4 => ?_)
        · refine lv_aload_n hx hb d7_reconcile_54 rfl (lv_at hl 0 rfl) ?_
          refine sr_get (v := .int (S 20 0 34)) hx hb hw hown hK hB 34 (hX 20 (by decide)) cf_20 us7 (by decide) fl_7_130 (rfl) d7_reconcile_55 ?_
          refine lv_sipush (v := 290) hx hb d7_reconcile_58 (by decide) ?_
          refine lv_icmp_lt (tgt := 69) hx hb d7_reconcile_61 (by decide) (fun c_5 => ?_) (fun c_5 => ?_)
          · refine lv_iconst (v := 0) hx hb d7_reconcile_69 (by decide) ?_
            refine lv_istore_n (lv' := [(1, .int 0), (0, .ref (ad 20 0))]) hx hb d7_reconcile_70 rfl hl (by decide) rfl (fun ls hl => ?_)
            refine lv_iload_n hx hb d7_reconcile_71 rfl (lv_at hl 0 rfl) ?_
            refine lv_if_ge (tgt := 77) hx hb d7_reconcile_72 (by decide) (fun _ => ?_) (fun c => absurd (by decide) c)
            refine lv_aload_n hx hb d7_reconcile_77 rfl (lv_at hl 1 rfl) ?_
            refine lv_iconst (v := 0) hx hb d7_reconcile_78 (by decide) ?_
            refine sr_put hx hb hw hown hK hB 37 (hX 20 (by decide)) cf_20 us7 tk7 nm7 (by decide) fl_7_188 rfl rfl rfl rfl d7_reconcile_79 (fun H locs hB => ?_)
            refine lv_iconst (v := 0) hx hb d7_reconcile_82 (by decide) ?_
            refine lv_istore_n (lv' := [(2, .int 0), (1, .int 0), (0, .ref (ad 20 0))]) hx hb d7_reconcile_83 rfl hl (by decide) rfl (fun ls hl => ?_)
            exact k7_reconcile_84 C0 hX  65 hB 0 0 (by (have kc_5 := lt_i c_5); (have l0 : (0 : Int32).toInt = 0 := rfl); (have l20 : (20 : Int32).toInt = 20 := rfl); (have l290 : (290 : Int32).toInt = 290 := rfl); (have l34 : (34 : Int32).toInt = 34 := rfl);  omega) (by (have kc_5 := lt_i c_5); (have l0 : (0 : Int32).toInt = 0 := rfl); (have l20 : (20 : Int32).toInt = 20 := rfl); (have l290 : (290 : Int32).toInt = 290 := rfl); (have l34 : (34 : Int32).toInt = 34 := rfl);  omega) (by (have kc_5 := lt_i c_5); (have l0 : (0 : Int32).toInt = 0 := rfl); (have l20 : (20 : Int32).toInt = 20 := rfl); (have l290 : (290 : Int32).toInt = 290 := rfl); (have l34 : (34 : Int32).toInt = 34 := rfl);  exact ⟨by rw [up3_s]; decide, by rw [up3_s]; decide⟩) (by (have kc_5 := lt_i c_5); (have l0 : (0 : Int32).toInt = 0 := rfl); (have l20 : (20 : Int32).toInt = 20 := rfl); (have l290 : (290 : Int32).toInt = 290 := rfl); (have l34 : (34 : Int32).toInt = 34 := rfl);  (show 0 ≤ (S 20 0 34).toInt ∧ (S 20 0 34).toInt < 300); omega) (by (have kc_5 := lt_i c_5); (have l0 : (0 : Int32).toInt = 0 := rfl); (have l20 : (20 : Int32).toInt = 20 := rfl); (have l290 : (290 : Int32).toInt = 290 := rfl); (have l34 : (34 : Int32).toInt = 34 := rfl);  exact fun i hi => hit i hi) (lv_sub hl [2, 1, 0] rfl) (by rw [if_pos c_1, if_neg c_2, if_pos c_3, if_neg c_4, if_pos c_5] at hO; exact hO)
          · refine lv_bipush (v := (-8)) hx hb d7_reconcile_64 (by decide) ?_
            refine lv_goto (tgt := 70) hx hb d7_reconcile_66 (by decide) ?_
            refine lv_istore_n (lv' := [(1, .int (-8)), (0, .ref (ad 20 0))]) hx hb d7_reconcile_70 rfl hl (by decide) rfl (fun ls hl => ?_)
            refine lv_iload_n hx hb d7_reconcile_71 rfl (lv_at hl 0 rfl) ?_
            refine lv_if_ge (tgt := 77) hx hb d7_reconcile_72 (by decide) (fun c => absurd c (by decide)) (fun _ => ?_)
            refine lv_iload_n hx hb d7_reconcile_75 rfl (lv_at hl 0 rfl) ?_
            exact se_i C0 hB (by rw [if_pos c_1, if_neg c_2, if_pos c_3, if_neg c_4, if_neg c_5] at hO; exact hO) d7_reconcile_76
        · refine lv_bipush (v := (-5)) hx hb d7_reconcile_49 (by decide) ?_
          refine lv_goto (tgt := 70) hx hb d7_reconcile_51 (by decide) ?_
          refine lv_istore_n (lv' := [(1, .int (-5)), (0, .ref (ad 20 0))]) hx hb d7_reconcile_70 rfl hl (by decide) rfl (fun ls hl => ?_)
          refine lv_iload_n hx hb d7_reconcile_71 rfl (lv_at hl 0 rfl) ?_
          refine lv_if_ge (tgt := 77) hx hb d7_reconcile_72 (by decide) (fun c => absurd c (by decide)) (fun _ => ?_)
          refine lv_iload_n hx hb d7_reconcile_75 rfl (lv_at hl 0 rfl) ?_
          exact se_i C0 hB (by rw [if_pos c_1, if_neg c_2, if_pos c_3, if_pos c_4] at hO; exact hO) d7_reconcile_76
      · refine lv_bipush (v := (-4)) hx hb d7_reconcile_37 (by decide) ?_
        refine lv_goto (tgt := 70) hx hb d7_reconcile_39 (by decide) ?_
        refine lv_istore_n (lv' := [(1, .int (-4)), (0, .ref (ad 20 0))]) hx hb d7_reconcile_70 rfl hl (by decide) rfl (fun ls hl => ?_)
        refine lv_iload_n hx hb d7_reconcile_71 rfl (lv_at hl 0 rfl) ?_
        refine lv_if_ge (tgt := 77) hx hb d7_reconcile_72 (by decide) (fun c => absurd c (by decide)) (fun _ => ?_)
        refine lv_iload_n hx hb d7_reconcile_75 rfl (lv_at hl 0 rfl) ?_
        exact se_i C0 hB (by rw [if_pos c_1, if_neg c_2, if_neg c_3] at hO; exact hO) d7_reconcile_76
    · refine lv_bipush (v := (-3)) hx hb d7_reconcile_25 (by decide) ?_
      refine lv_goto (tgt := 70) hx hb d7_reconcile_27 (by decide) ?_
      refine lv_istore_n (lv' := [(1, .int (-3)), (0, .ref (ad 20 0))]) hx hb d7_reconcile_70 rfl hl (by decide) rfl (fun ls hl => ?_)
      refine lv_iload_n hx hb d7_reconcile_71 rfl (lv_at hl 0 rfl) ?_
      refine lv_if_ge (tgt := 77) hx hb d7_reconcile_72 (by decide) (fun c => absurd c (by decide)) (fun _ => ?_)
      refine lv_iload_n hx hb d7_reconcile_75 rfl (lv_at hl 0 rfl) ?_
      exact se_i C0 hB (by rw [if_pos c_1, if_pos c_2] at hO; exact hO) d7_reconcile_76
  · refine lv_bipush (v := (-2)) hx hb d7_reconcile_7 (by decide) ?_
    refine lv_goto (tgt := 70) hx hb d7_reconcile_9 (by decide) ?_
    refine lv_istore_n (lv' := [(1, .int (-2)), (0, .ref (ad 20 0))]) hx hb d7_reconcile_70 rfl hl (by decide) rfl (fun ls hl => ?_)
    refine lv_iload_n hx hb d7_reconcile_71 rfl (lv_at hl 0 rfl) ?_
    refine lv_if_ge (tgt := 77) hx hb d7_reconcile_72 (by decide) (fun c => absurd c (by decide)) (fun _ => ?_)
    refine lv_iload_n hx hb d7_reconcile_75 rfl (lv_at hl 0 rfl) ?_
    exact se_i C0 hB (by rw [if_neg c_1] at hO; exact hO) d7_reconcile_76
theorem hd7_reconcile : y7_reconcile.cls = R7 ∧ y7_reconcile.cls ≠ "java/lang/invoke/MethodHandle" ∧ y7_reconcile.cls ≠ "java/lang/invoke/VarHandle" ∧ (parseMethodDescriptor y7_reconcile.desc).map (fun d => d.parameters.length) = some 0 := ⟨rfl, by decide, by decide, by decide +kernel⟩
theorem m7_reconcile {l : Launch} {D : va_G} {aC : Nat → ClassId} {ad : Nat → Nat → Nat} {X : Nat → Nat → Prop} {S A : sS} {G : sG} (hX : xR X)  (hwho : (S 20 0 6).toInt < 16) (hen : 0 ≤ (S 20 0 34).toInt ∧ (S 20 0 34).toInt ≤ 300) (hit : ∀ i, i < 64 → (A 35 0 i).toInt < 32) : Met l y7_reconcile (.code y7_reconcile b7_reconcile 3 (some .int) :: wall) (rmk 1) (s_Pc [.ref (ad 20 0)] D aC ad X S A G) (s_Qi D aC ad X G (O7_reconcile S A G )) 0 0 (s_N ad X) :=
  s_met (by decide) rfl (Nat.le_of_ble_eq_true rfl) (fun p e s m args below meth c C0 hB ls hl => k7_reconcile_0 C0 hB hX  hwho hen hit hl rfl)

def O7_begin (S A : sS) (G : sG) (x1 : Int32) (x2 : Int32) : Int32 × sS × sS := if V7_in S A G x1 0 3 = 0 then ((-1), S, A) else if x1 = 0 then if V7_hasOrder S A G x2 = 0 then ((-1), S, A) else if A 42 0 (x2.toNatClampNeg) < 0 then if 0 ≤ S 20 0 6 then if A 23 0 ((S 20 0 6).toNatClampNeg) = 2 then ((-3), S, A) else if S 20 0 27 < 0 then if V7_mayTake S A G x2 = 0 then ((-6), S, A) else if 0 ≤ V7_chosen S A G (A 42 0 (x2.toNatClampNeg)) then if 290 ≤ S 20 0 34 then ((-8), S, A) else (V7_chosen S A G (A 42 0 (x2.toNatClampNeg)), (up3 (up3 (up3 (up3 (up3 (up3 (up3 (up3 S 20 0 27 x1) 20 0 28 (V7_chosen S A G (A 42 0 (x2.toNatClampNeg)))) 20 0 29 x2) 20 0 30 (S 20 0 0)) 20 0 31 0) 20 0 32 0) 20 0 33 0) 20 0 7 (S 20 0 0)), A) else ((-7), S, A) else ((-4), S, A) else ((-2), S, A) else if A 32 0 ((A 42 0 (x2.toNatClampNeg)).toNatClampNeg) = 0 then if 0 ≤ S 20 0 6 then if A 23 0 ((S 20 0 6).toNatClampNeg) = 2 then ((-3), S, A) else if S 20 0 27 < 0 then if V7_mayTake S A G x2 = 0 then ((-6), S, A) else if 0 ≤ V7_chosen S A G (A 42 0 (x2.toNatClampNeg)) then if 290 ≤ S 20 0 34 then ((-8), S, A) else (V7_chosen S A G (A 42 0 (x2.toNatClampNeg)), (up3 (up3 (up3 (up3 (up3 (up3 (up3 (up3 S 20 0 27 x1) 20 0 28 (V7_chosen S A G (A 42 0 (x2.toNatClampNeg)))) 20 0 29 x2) 20 0 30 (S 20 0 0)) 20 0 31 0) 20 0 32 0) 20 0 33 0) 20 0 7 (S 20 0 0)), A) else ((-7), S, A) else ((-4), S, A) else ((-2), S, A) else if 0 ≤ S 20 0 6 then if A 23 0 ((S 20 0 6).toNatClampNeg) = 2 then ((-3), S, A) else if S 20 0 27 < 0 then if V7_isWatched S A G  = 0 then ((-5), S, A) else if V7_mayTake S A G x2 = 0 then ((-6), S, A) else if 0 ≤ V7_chosen S A G (A 42 0 (x2.toNatClampNeg)) then if 290 ≤ S 20 0 34 then ((-8), S, A) else (V7_chosen S A G (A 42 0 (x2.toNatClampNeg)), (up3 (up3 (up3 (up3 (up3 (up3 (up3 (up3 S 20 0 27 x1) 20 0 28 (V7_chosen S A G (A 42 0 (x2.toNatClampNeg)))) 20 0 29 x2) 20 0 30 (S 20 0 0)) 20 0 31 1) 20 0 32 0) 20 0 33 0) 20 0 7 (S 20 0 0)), A) else ((-7), S, A) else ((-4), S, A) else ((-2), S, A) else if V7_hasBin S A G x2 = 0 then ((-1), S, A) else if x1 ≤ 1 then if A 35 0 (x2.toNatClampNeg) < 0 then if 0 ≤ S 20 0 6 then if x1 = 1 then if A 23 0 ((S 20 0 6).toNatClampNeg) = 1 then if S 20 0 27 < 0 then if 0 ≤ x2 then if 290 ≤ S 20 0 34 then ((-8), S, A) else if A 36 0 (x2.toNatClampNeg) = 6 then ((-8), S, A) else (x2, (up3 (up3 (up3 (up3 (up3 (up3 (up3 (up3 S 20 0 27 x1) 20 0 28 x2) 20 0 29 (-1)) 20 0 30 (S 20 0 0)) 20 0 31 0) 20 0 32 0) 20 0 33 0) 20 0 7 (S 20 0 0)), A) else ((-7), S, A) else ((-4), S, A) else ((-3), S, A) else if A 23 0 ((S 20 0 6).toNatClampNeg) = 2 then ((-3), S, A) else if S 20 0 27 < 0 then if x1 = 3 then if V7_isWatched S A G  = 0 then ((-5), S, A) else if 0 ≤ x2 then if 290 ≤ S 20 0 34 then ((-8), S, A) else (x2, (up3 (up3 (up3 (up3 (up3 (up3 (up3 (up3 S 20 0 27 x1) 20 0 28 x2) 20 0 29 (-1)) 20 0 30 (S 20 0 0)) 20 0 31 0) 20 0 32 0) 20 0 33 0) 20 0 7 (S 20 0 0)), A) else ((-7), S, A) else if 0 ≤ x2 then if 290 ≤ S 20 0 34 then ((-8), S, A) else if x1 = 2 then (x2, (up3 (up3 (up3 (up3 (up3 (up3 (up3 (up3 S 20 0 27 x1) 20 0 28 x2) 20 0 29 (-1)) 20 0 30 (S 20 0 0)) 20 0 31 1) 20 0 32 0) 20 0 33 0) 20 0 7 (S 20 0 0)), A) else (x2, (up3 (up3 (up3 (up3 (up3 (up3 (up3 (up3 S 20 0 27 x1) 20 0 28 x2) 20 0 29 (-1)) 20 0 30 (S 20 0 0)) 20 0 31 0) 20 0 32 0) 20 0 33 0) 20 0 7 (S 20 0 0)), A) else ((-7), S, A) else ((-4), S, A) else ((-2), S, A) else if A 32 0 ((A 35 0 (x2.toNatClampNeg)).toNatClampNeg) = 0 then if 0 ≤ S 20 0 6 then if x1 = 1 then if A 23 0 ((S 20 0 6).toNatClampNeg) = 1 then if S 20 0 27 < 0 then if 0 ≤ x2 then if 290 ≤ S 20 0 34 then ((-8), S, A) else if A 36 0 (x2.toNatClampNeg) = 6 then ((-8), S, A) else (x2, (up3 (up3 (up3 (up3 (up3 (up3 (up3 (up3 S 20 0 27 x1) 20 0 28 x2) 20 0 29 (-1)) 20 0 30 (S 20 0 0)) 20 0 31 0) 20 0 32 0) 20 0 33 0) 20 0 7 (S 20 0 0)), A) else ((-7), S, A) else ((-4), S, A) else ((-3), S, A) else if A 23 0 ((S 20 0 6).toNatClampNeg) = 2 then ((-3), S, A) else if S 20 0 27 < 0 then if x1 = 3 then if V7_isWatched S A G  = 0 then ((-5), S, A) else if 0 ≤ x2 then if 290 ≤ S 20 0 34 then ((-8), S, A) else (x2, (up3 (up3 (up3 (up3 (up3 (up3 (up3 (up3 S 20 0 27 x1) 20 0 28 x2) 20 0 29 (-1)) 20 0 30 (S 20 0 0)) 20 0 31 0) 20 0 32 0) 20 0 33 0) 20 0 7 (S 20 0 0)), A) else ((-7), S, A) else if 0 ≤ x2 then if 290 ≤ S 20 0 34 then ((-8), S, A) else if x1 = 2 then (x2, (up3 (up3 (up3 (up3 (up3 (up3 (up3 (up3 S 20 0 27 x1) 20 0 28 x2) 20 0 29 (-1)) 20 0 30 (S 20 0 0)) 20 0 31 1) 20 0 32 0) 20 0 33 0) 20 0 7 (S 20 0 0)), A) else (x2, (up3 (up3 (up3 (up3 (up3 (up3 (up3 (up3 S 20 0 27 x1) 20 0 28 x2) 20 0 29 (-1)) 20 0 30 (S 20 0 0)) 20 0 31 0) 20 0 32 0) 20 0 33 0) 20 0 7 (S 20 0 0)), A) else ((-7), S, A) else ((-4), S, A) else ((-2), S, A) else if x1 = 1 then if 0 ≤ S 20 0 6 then if A 23 0 ((S 20 0 6).toNatClampNeg) = 1 then if S 20 0 27 < 0 then if 0 ≤ x2 then if 290 ≤ S 20 0 34 then ((-8), S, A) else if A 36 0 (x2.toNatClampNeg) = 6 then ((-8), S, A) else (x2, (up3 (up3 (up3 (up3 (up3 (up3 (up3 (up3 S 20 0 27 x1) 20 0 28 x2) 20 0 29 (-1)) 20 0 30 (S 20 0 0)) 20 0 31 0) 20 0 32 0) 20 0 33 0) 20 0 7 (S 20 0 0)), A) else ((-7), S, A) else ((-4), S, A) else ((-3), S, A) else ((-2), S, A) else if 0 ≤ S 20 0 6 then if A 23 0 ((S 20 0 6).toNatClampNeg) = 2 then ((-3), S, A) else if S 20 0 27 < 0 then if x1 = 3 then if V7_isWatched S A G  = 0 then ((-5), S, A) else if 0 ≤ x2 then if 290 ≤ S 20 0 34 then ((-8), S, A) else (x2, (up3 (up3 (up3 (up3 (up3 (up3 (up3 (up3 S 20 0 27 x1) 20 0 28 x2) 20 0 29 (-1)) 20 0 30 (S 20 0 0)) 20 0 31 1) 20 0 32 0) 20 0 33 0) 20 0 7 (S 20 0 0)), A) else ((-7), S, A) else if 0 ≤ x2 then if 290 ≤ S 20 0 34 then ((-8), S, A) else if x1 = 2 then (x2, (up3 (up3 (up3 (up3 (up3 (up3 (up3 (up3 S 20 0 27 x1) 20 0 28 x2) 20 0 29 (-1)) 20 0 30 (S 20 0 0)) 20 0 31 1) 20 0 32 0) 20 0 33 0) 20 0 7 (S 20 0 0)), A) else (x2, (up3 (up3 (up3 (up3 (up3 (up3 (up3 (up3 S 20 0 27 x1) 20 0 28 x2) 20 0 29 (-1)) 20 0 30 (S 20 0 0)) 20 0 31 1) 20 0 32 0) 20 0 33 0) 20 0 7 (S 20 0 0)), A) else ((-7), S, A) else ((-4), S, A) else ((-2), S, A) else if 0 ≤ A 35 0 (x2.toNatClampNeg) then if A 32 0 ((A 35 0 (x2.toNatClampNeg)).toNatClampNeg) = 0 then if 0 ≤ S 20 0 6 then if x1 = 1 then if A 23 0 ((S 20 0 6).toNatClampNeg) = 1 then if S 20 0 27 < 0 then if 0 ≤ x2 then if 290 ≤ S 20 0 34 then ((-8), S, A) else if A 36 0 (x2.toNatClampNeg) = 6 then ((-8), S, A) else (x2, (up3 (up3 (up3 (up3 (up3 (up3 (up3 (up3 S 20 0 27 x1) 20 0 28 x2) 20 0 29 (-1)) 20 0 30 (S 20 0 0)) 20 0 31 0) 20 0 32 0) 20 0 33 0) 20 0 7 (S 20 0 0)), A) else ((-7), S, A) else ((-4), S, A) else ((-3), S, A) else if A 23 0 ((S 20 0 6).toNatClampNeg) = 2 then ((-3), S, A) else if S 20 0 27 < 0 then if x1 = 3 then if V7_isWatched S A G  = 0 then ((-5), S, A) else if 0 ≤ x2 then if 290 ≤ S 20 0 34 then ((-8), S, A) else (x2, (up3 (up3 (up3 (up3 (up3 (up3 (up3 (up3 S 20 0 27 x1) 20 0 28 x2) 20 0 29 (-1)) 20 0 30 (S 20 0 0)) 20 0 31 0) 20 0 32 0) 20 0 33 0) 20 0 7 (S 20 0 0)), A) else ((-7), S, A) else if 0 ≤ x2 then if 290 ≤ S 20 0 34 then ((-8), S, A) else if x1 = 2 then (x2, (up3 (up3 (up3 (up3 (up3 (up3 (up3 (up3 S 20 0 27 x1) 20 0 28 x2) 20 0 29 (-1)) 20 0 30 (S 20 0 0)) 20 0 31 1) 20 0 32 0) 20 0 33 0) 20 0 7 (S 20 0 0)), A) else (x2, (up3 (up3 (up3 (up3 (up3 (up3 (up3 (up3 S 20 0 27 x1) 20 0 28 x2) 20 0 29 (-1)) 20 0 30 (S 20 0 0)) 20 0 31 0) 20 0 32 0) 20 0 33 0) 20 0 7 (S 20 0 0)), A) else ((-7), S, A) else ((-4), S, A) else ((-2), S, A) else if x1 = 1 then if 0 ≤ S 20 0 6 then if A 23 0 ((S 20 0 6).toNatClampNeg) = 1 then if S 20 0 27 < 0 then if 0 ≤ x2 then if 290 ≤ S 20 0 34 then ((-8), S, A) else if A 36 0 (x2.toNatClampNeg) = 6 then ((-8), S, A) else (x2, (up3 (up3 (up3 (up3 (up3 (up3 (up3 (up3 S 20 0 27 x1) 20 0 28 x2) 20 0 29 (-1)) 20 0 30 (S 20 0 0)) 20 0 31 0) 20 0 32 0) 20 0 33 0) 20 0 7 (S 20 0 0)), A) else ((-7), S, A) else ((-4), S, A) else ((-3), S, A) else ((-2), S, A) else if 0 ≤ S 20 0 6 then if A 23 0 ((S 20 0 6).toNatClampNeg) = 2 then ((-3), S, A) else if S 20 0 27 < 0 then if x1 = 3 then if V7_isWatched S A G  = 0 then ((-5), S, A) else if 0 ≤ x2 then if 290 ≤ S 20 0 34 then ((-8), S, A) else (x2, (up3 (up3 (up3 (up3 (up3 (up3 (up3 (up3 S 20 0 27 x1) 20 0 28 x2) 20 0 29 (-1)) 20 0 30 (S 20 0 0)) 20 0 31 1) 20 0 32 0) 20 0 33 0) 20 0 7 (S 20 0 0)), A) else ((-7), S, A) else if 0 ≤ x2 then if 290 ≤ S 20 0 34 then ((-8), S, A) else if x1 = 2 then (x2, (up3 (up3 (up3 (up3 (up3 (up3 (up3 (up3 S 20 0 27 x1) 20 0 28 x2) 20 0 29 (-1)) 20 0 30 (S 20 0 0)) 20 0 31 1) 20 0 32 0) 20 0 33 0) 20 0 7 (S 20 0 0)), A) else (x2, (up3 (up3 (up3 (up3 (up3 (up3 (up3 (up3 S 20 0 27 x1) 20 0 28 x2) 20 0 29 (-1)) 20 0 30 (S 20 0 0)) 20 0 31 1) 20 0 32 0) 20 0 33 0) 20 0 7 (S 20 0 0)), A) else ((-7), S, A) else ((-4), S, A) else ((-2), S, A) else ((-1), S, A)
set_option maxRecDepth 100000 in
set_option maxHeartbeats 4000000 in
theorem k7_begin_0 {p : Program} {l : Launch} {e : Env} {s : State} {m : MethodId} {args : Array Value} {below : List Frame} {meth : Method} {c : Code} {D : va_G} {aC : Nat → ClassId} {ad : Nat → Nat → Nat} {X : Nat → Nat → Prop} {S A : sS} {G : sG} {H : Heap} {locs : List Loc} (C0 : s_C p s m args meth c b7_begin 8 R7 (some .int) D aC) (hB : s_B D aC ad X (s_N ad X) S A G s.heap H locs) (hX : xR X) (x1 : Int32) (x2 : Int32) (hwho : (S 20 0 6).toInt < 16) (hord : 0 ≤ (S 20 0 20).toInt ∧ (S 20 0 20).toInt ≤ 60) (hlo : ∀ i, i < 64 → 0 ≤ (A 36 0 i).toInt ∧ (A 36 0 i).toInt ≤ 6) (hen : 0 ≤ (S 20 0 34).toInt ∧ (S 20 0 34).toInt ≤ 300) (hit : ∀ i, i < 64 → (A 35 0 i).toInt < 32) (hoi : ∀ i, i < 60 → 0 ≤ (A 42 0 i).toInt ∧ (A 42 0 i).toInt < 32) {ls : Array Slot} (hl : lv_has ls 8 [(0, .ref (ad 20 0)), (1, .int x1), (2, .int x2)]) {o : Int32 × sS × sS} (hO : O7_begin S A G x1 x2 = o) : W p l e (rmk 2) s m args below meth c H locs 0 0 (MQ below (s_Qi D aC ad X G o) args s 0 0 (s_N ad X)) (F0 m 0 ls []) := by
  obtain ⟨hx, hb, hml, hown, hw, hK, hr, hlocks⟩ := id C0
  unfold O7_begin at hO
  refine lv_iload_n hx hb d7_begin_0 rfl (lv_at hl 1 rfl) ?_
  refine lv_iconst (v := 0) hx hb d7_begin_1 (by decide) ?_
  refine lv_iconst (v := 3) hx hb d7_begin_2 (by decide) ?_
  refine sr_sp C0 hB (m7_in hX x1 0 3 ) ml_7_93 st_7_in in_7 cd_7_in hd7_in ⟨⟨rfl, rfl⟩, by decide, by decide⟩ ⟨Nat.zero_le _, Nat.zero_le _⟩ hl.1 rfl (Nat.le_of_ble_eq_true rfl) d7_begin_3 ?_
  refine lv_if_eq (tgt := 35) hx hb d7_begin_6 (by decide) (fun c_1 => ?_) (fun c_1 => ?_)
  · refine lv_iconst (v := 0) hx hb d7_begin_35 (by decide) ?_
    refine lv_istore_n (lv' := [(3, .int 0), (0, .ref (ad 20 0)), (1, .int x1), (2, .int x2)]) hx hb d7_begin_36 rfl hl (by decide) rfl (fun ls hl => ?_)
    refine lv_iload_n hx hb d7_begin_37 rfl (lv_at hl 0 rfl) ?_
    refine lv_if_eq (tgt := 55) hx hb d7_begin_38 (by decide) (fun _ => ?_) (fun c => absurd (by decide) c)
    refine lv_iconst (v := (-1)) hx hb d7_begin_55 (by decide) ?_
    exact se_i C0 hB (by rw [if_pos c_1] at hO; exact hO) d7_begin_56
  · refine lv_iload_n hx hb d7_begin_9 rfl (lv_at hl 1 rfl) ?_
    refine lv_if_ne (tgt := 24) hx hb d7_begin_10 (by decide) (fun c_3 => ?_) (fun c_3 => ?_)
    · refine lv_iload_n hx hb d7_begin_24 rfl (lv_at hl 2 rfl) ?_
      refine sr_sp C0 hB (m7_hasBin hX x2 ) ml_7_140 st_7_hasBin in_7 cd_7_hasBin hd7_hasBin ⟨⟨rfl, rfl⟩, by decide, by decide⟩ ⟨Nat.zero_le _, Nat.zero_le _⟩ hl.1 rfl (Nat.le_of_ble_eq_true rfl) d7_begin_25 ?_
      refine lv_if_eq (tgt := 35) hx hb d7_begin_28 (by decide) (fun c_4 => ?_) (fun c_4 => ?_)
      · refine lv_iconst (v := 0) hx hb d7_begin_35 (by decide) ?_
        refine lv_istore_n (lv' := [(3, .int 0), (0, .ref (ad 20 0)), (1, .int x1), (2, .int x2)]) hx hb d7_begin_36 rfl hl (by decide) rfl (fun ls hl => ?_)
        refine lv_iload_n hx hb d7_begin_37 rfl (lv_at hl 0 rfl) ?_
        refine lv_if_eq (tgt := 55) hx hb d7_begin_38 (by decide) (fun _ => ?_) (fun c => absurd (by decide) c)
        refine lv_iconst (v := (-1)) hx hb d7_begin_55 (by decide) ?_
        exact se_i C0 hB (by rw [if_neg c_1, if_neg c_3, if_pos c_4] at hO; exact hO) d7_begin_56
      · refine lv_iconst (v := 1) hx hb d7_begin_31 (by decide) ?_
        refine lv_goto (tgt := 36) hx hb d7_begin_32 (by decide) ?_
        refine lv_istore_n (lv' := [(3, .int 1), (0, .ref (ad 20 0)), (1, .int x1), (2, .int x2)]) hx hb d7_begin_36 rfl hl (by decide) rfl (fun ls hl => ?_)
        refine lv_iload_n hx hb d7_begin_37 rfl (lv_at hl 0 rfl) ?_
        refine lv_if_eq (tgt := 55) hx hb d7_begin_38 (by decide) (fun c => absurd c (by decide)) (fun _ => ?_)
        refine lv_iload_n hx hb d7_begin_41 rfl (lv_at hl 2 rfl) ?_
        refine lv_iconst (v := 1) hx hb d7_begin_42 (by decide) ?_
        refine lv_icmp_le (tgt := 57) hx hb d7_begin_43 (by decide) (fun c_7 => ?_) (fun c_7 => ?_)
        · refine lv_iload_n hx hb d7_begin_57 rfl (lv_at hl 2 rfl) ?_
          refine lv_if_ne (tgt := 70) hx hb d7_begin_58 (by decide) (fun _ => ?_) (fun c => absurd c c_3)
          refine lv_aload_n hx hb d7_begin_70 rfl (lv_at hl 1 rfl) ?_
          refine sr_get (v := .ref (ad 35 0)) hx hb hw hown hK hB 14 (hX 20 (by decide)) cf_20 us7 (by decide) fl_7_45 (rfl) d7_begin_71 ?_
          refine lv_iload_n hx hb d7_begin_74 rfl (lv_at hl 3 rfl) ?_
          refine sr_iald (v := A 35 0 (x2.toNatClampNeg)) hx hb hK hB (hX 35 (by decide)) rfl rfl (by (refine vp_in_iff.mpr ?_); (show 0 ≤ x2.toInt ∧ x2.toInt < ((64 : Nat) : Int)); (have a1 := sub1_i (x := S 20 0 20) (by omega)); (have kc_4 := hasBin_t c_4);  omega) d7_begin_75 (rfl) ?_
          refine lv_istore (lv' := [(4, .int (A 35 0 (x2.toNatClampNeg))), (3, .int 1), (0, .ref (ad 20 0)), (1, .int x1), (2, .int x2)]) hx hb d7_begin_76 hl (by decide) rfl (fun ls hl => ?_)
          refine lv_iload hx hb d7_begin_78 (lv_at hl 0 rfl) ?_
          refine lv_if_lt (tgt := 102) hx hb d7_begin_80 (by decide) (fun c_9 => ?_) (fun c_9 => ?_)
          · refine lv_iconst (v := 0) hx hb d7_begin_102 (by decide) ?_
            refine lv_istore (lv' := [(5, .int 0), (4, .int (A 35 0 (x2.toNatClampNeg))), (3, .int 1), (0, .ref (ad 20 0)), (1, .int x1), (2, .int x2)]) hx hb d7_begin_103 hl (by decide) rfl (fun ls hl => ?_)
            refine lv_aload_n hx hb d7_begin_105 rfl (lv_at hl 3 rfl) ?_
            refine sr_get (v := .int (S 20 0 6)) hx hb hw hown hK hB 6 (hX 20 (by decide)) cf_20 us7 (by decide) fl_7_26 (rfl) d7_begin_106 ?_
            refine lv_if_ge (tgt := 117) hx hb d7_begin_109 (by decide) (fun c_10 => ?_) (fun c_10 => ?_)
            · refine lv_iload_n hx hb d7_begin_117 rfl (lv_at hl 4 rfl) ?_
              refine lv_iconst (v := 1) hx hb d7_begin_118 (by decide) ?_
              refine lv_icmp_ne (tgt := 135) hx hb d7_begin_119 (by decide) (fun c_11 => ?_) (fun c_11 => ?_)
              · refine lv_aload_n hx hb d7_begin_135 rfl (lv_at hl 3 rfl) ?_
                refine sr_get (v := .ref (ad 23 0)) hx hb hw hown hK hB 2 (hX 20 (by decide)) cf_20 us7 (by decide) fl_7_13 (rfl) d7_begin_136 ?_
                refine lv_aload_n hx hb d7_begin_139 rfl (lv_at hl 3 rfl) ?_
                refine sr_get (v := .int (S 20 0 6)) hx hb hw hown hK hB 6 (hX 20 (by decide)) cf_20 us7 (by decide) fl_7_26 (rfl) d7_begin_140 ?_
                refine sr_iald (v := A 23 0 ((S 20 0 6).toNatClampNeg)) hx hb hK hB (hX 23 (by decide)) rfl rfl (by (refine vp_in_iff.mpr ?_); (show 0 ≤ (S 20 0 6).toInt ∧ (S 20 0 6).toInt < ((16 : Nat) : Int)); (have a1 := sub1_i (x := S 20 0 20) (by omega)); (have kc_4 := hasBin_t c_4); (have kc_10 := le_i c_10); (have l0 : (0 : Int32).toInt = 0 := rfl); (have l20 : (20 : Int32).toInt = 20 := rfl); (have l6 : (6 : Int32).toInt = 6 := rfl);  omega) d7_begin_143 (rfl) ?_
                refine lv_iconst (v := 2) hx hb d7_begin_144 (by decide) ?_
                refine lv_icmp_ne (tgt := 153) hx hb d7_begin_145 (by decide) (fun c_12 => ?_) (fun c_12 => ?_)
                · refine lv_aload_n hx hb d7_begin_153 rfl (lv_at hl 3 rfl) ?_
                  refine sr_get (v := .int (S 20 0 27)) hx hb hw hown hK hB 27 (hX 20 (by decide)) cf_20 us7 (by decide) fl_7_81 (rfl) d7_begin_154 ?_
                  refine lv_if_lt (tgt := 165) hx hb d7_begin_157 (by decide) (fun c_13 => ?_) (fun c_13 => ?_)
                  · refine lv_iconst (v := 0) hx hb d7_begin_165 (by decide) ?_
                    refine lv_istore (lv' := [(6, .int 0), (5, .int 0), (4, .int (A 35 0 (x2.toNatClampNeg))), (3, .int 1), (0, .ref (ad 20 0)), (1, .int x1), (2, .int x2)]) hx hb d7_begin_166 hl (by decide) rfl (fun ls hl => ?_)
                    refine lv_iload hx hb d7_begin_168 (lv_at hl 0 rfl) ?_
                    refine lv_if_ne (tgt := 198) hx hb d7_begin_170 (by decide) (fun c => absurd (by decide) c) (fun _ => ?_)
                    refine lv_iload_n hx hb d7_begin_173 rfl (lv_at hl 5 rfl) ?_
                    refine lv_iconst (v := 3) hx hb d7_begin_174 (by decide) ?_
                    refine lv_icmp_eq (tgt := 187) hx hb d7_begin_175 (by decide) (fun c_15 => ?_) (fun c_15 => ?_)
                    · refine lv_aload_n hx hb d7_begin_187 rfl (lv_at hl 4 rfl) ?_
                      refine sr_vp C0 hB (m7_isWatched hX  ) (hX 20 (by decide)) cf_20 ml_7_143 im_7_isWatched se_7_isWatched in_7 cd_7_isWatched hd7_isWatched ⟨⟨rfl, rfl⟩, by decide, by decide⟩ ⟨Nat.zero_le _, Nat.zero_le _⟩ hl.1 rfl (Nat.le_of_ble_eq_true rfl) d7_begin_188 ?_
                      refine lv_if_ne (tgt := 198) hx hb d7_begin_191 (by decide) (fun c_16 => ?_) (fun c_16 => ?_)
                      · refine lv_iload hx hb d7_begin_198 (lv_at hl 0 rfl) ?_
                        refine lv_if_ne (tgt := 219) hx hb d7_begin_200 (by decide) (fun c => absurd (by decide) c) (fun _ => ?_)
                        refine lv_iload_n hx hb d7_begin_203 rfl (lv_at hl 5 rfl) ?_
                        refine lv_if_ne (tgt := 219) hx hb d7_begin_204 (by decide) (fun _ => ?_) (fun c => absurd c c_3)
                        refine lv_iload_n hx hb d7_begin_219 rfl (lv_at hl 5 rfl) ?_
                        refine lv_if_ne (tgt := 232) hx hb d7_begin_220 (by decide) (fun _ => ?_) (fun c => absurd c c_3)
                        refine lv_iload_n hx hb d7_begin_232 rfl (lv_at hl 6 rfl) ?_
                        refine lv_istore (lv' := [(7, .int x2), (6, .int 0), (5, .int 0), (4, .int (A 35 0 (x2.toNatClampNeg))), (3, .int 1), (0, .ref (ad 20 0)), (1, .int x1), (2, .int x2)]) hx hb d7_begin_233 hl (by decide) rfl (fun ls hl => ?_)
                        refine lv_iload hx hb d7_begin_235 (lv_at hl 1 rfl) ?_
                        refine lv_if_ne (tgt := 285) hx hb d7_begin_237 (by decide) (fun c => absurd (by decide) c) (fun _ => ?_)
                        refine lv_iload hx hb d7_begin_240 (lv_at hl 0 rfl) ?_
                        refine lv_if_ge (tgt := 250) hx hb d7_begin_242 (by decide) (fun c_21 => ?_) (fun c_21 => ?_)
                        · refine lv_aload_n hx hb d7_begin_250 rfl (lv_at hl 5 rfl) ?_
                          refine sr_get (v := .int (S 20 0 34)) hx hb hw hown hK hB 34 (hX 20 (by decide)) cf_20 us7 (by decide) fl_7_130 (rfl) d7_begin_251 ?_
                          refine lv_sipush (v := 290) hx hb d7_begin_254 (by decide) ?_
                          refine lv_icmp_ge (tgt := 277) hx hb d7_begin_257 (by decide) (fun c_22 => ?_) (fun c_22 => ?_)
                          · refine lv_bipush (v := (-8)) hx hb d7_begin_277 (by decide) ?_
                            refine lv_goto (tgt := 283) hx hb d7_begin_279 (by decide) ?_
                            refine lv_istore (lv' := [(6, .int (-8)), (7, .int x2), (5, .int 0), (4, .int (A 35 0 (x2.toNatClampNeg))), (3, .int 1), (0, .ref (ad 20 0)), (1, .int x1), (2, .int x2)]) hx hb d7_begin_283 hl (by decide) rfl (fun ls hl => ?_)
                            refine lv_iload hx hb d7_begin_285 (lv_at hl 0 rfl) ?_
                            refine lv_if_ge (tgt := 293) hx hb d7_begin_287 (by decide) (fun c => absurd c (by decide)) (fun _ => ?_)
                            refine lv_iload hx hb d7_begin_290 (lv_at hl 0 rfl) ?_
                            exact se_i C0 hB (by rw [if_neg c_1, if_neg c_3, if_neg c_4, if_pos c_7, if_pos c_9, if_pos c_10, if_neg c_11, if_neg c_12, if_pos c_13, if_pos c_15, if_neg c_16, if_pos c_21, if_pos c_22] at hO; exact hO) d7_begin_292
                          · refine lv_iload_n hx hb d7_begin_260 rfl (lv_at hl 6 rfl) ?_
                            refine lv_iconst (v := 1) hx hb d7_begin_261 (by decide) ?_
                            refine lv_icmp_ne (tgt := 282) hx hb d7_begin_262 (by decide) (fun _ => ?_) (fun c => absurd c c_11)
                            refine lv_iconst (v := 0) hx hb d7_begin_282 (by decide) ?_
                            refine lv_istore (lv' := [(6, .int 0), (7, .int x2), (5, .int 0), (4, .int (A 35 0 (x2.toNatClampNeg))), (3, .int 1), (0, .ref (ad 20 0)), (1, .int x1), (2, .int x2)]) hx hb d7_begin_283 hl (by decide) rfl (fun ls hl => ?_)
                            refine lv_iload hx hb d7_begin_285 (lv_at hl 0 rfl) ?_
                            refine lv_if_ge (tgt := 293) hx hb d7_begin_287 (by decide) (fun _ => ?_) (fun c => absurd (by decide) c)
                            refine lv_aload_n hx hb d7_begin_293 rfl (lv_at hl 5 rfl) ?_
                            refine lv_iload_n hx hb d7_begin_294 rfl (lv_at hl 6 rfl) ?_
                            refine sr_put hx hb hw hown hK hB 27 (hX 20 (by decide)) cf_20 us7 tk7 nm7 (by decide) fl_7_81 rfl rfl rfl rfl d7_begin_295 (fun H locs hB => ?_)
                            refine lv_aload_n hx hb d7_begin_298 rfl (lv_at hl 5 rfl) ?_
                            refine lv_iload hx hb d7_begin_299 (lv_at hl 1 rfl) ?_
                            refine sr_put hx hb hw hown hK hB 28 (hX 20 (by decide)) cf_20 us7 tk7 nm7 (by decide) fl_7_153 rfl rfl rfl rfl d7_begin_301 (fun H locs hB => ?_)
                            refine lv_aload_n hx hb d7_begin_304 rfl (lv_at hl 5 rfl) ?_
                            refine lv_iload_n hx hb d7_begin_305 rfl (lv_at hl 6 rfl) ?_
                            refine lv_if_ne (tgt := 313) hx hb d7_begin_306 (by decide) (fun _ => ?_) (fun c => absurd c c_3)
                            refine lv_iconst (v := (-1)) hx hb d7_begin_313 (by decide) ?_
                            refine sr_put hx hb hw hown hK hB 29 (hX 20 (by decide)) cf_20 us7 tk7 nm7 (by decide) fl_7_124 rfl rfl rfl rfl d7_begin_314 (fun H locs hB => ?_)
                            refine lv_aload_n hx hb d7_begin_317 rfl (lv_at hl 5 rfl) ?_
                            refine lv_aload_n hx hb d7_begin_318 rfl (lv_at hl 5 rfl) ?_
                            refine sr_get (v := .int (S 20 0 0)) hx hb hw hown hK hB 0 (hX 20 (by decide)) cf_20 us7 (by decide) fl_7_100 (rfl) d7_begin_319 ?_
                            refine sr_put hx hb hw hown hK hB 30 (hX 20 (by decide)) cf_20 us7 tk7 nm7 (by decide) fl_7_156 rfl rfl rfl rfl d7_begin_322 (fun H locs hB => ?_)
                            refine lv_aload_n hx hb d7_begin_325 rfl (lv_at hl 5 rfl) ?_
                            refine lv_iload_n hx hb d7_begin_326 rfl (lv_at hl 6 rfl) ?_
                            refine lv_iconst (v := 2) hx hb d7_begin_327 (by decide) ?_
                            refine lv_icmp_eq (tgt := 336) hx hb d7_begin_328 (by decide) (fun c => absurd c (by rw [c_15]; decide)) (fun _ => ?_)
                            refine lv_iload hx hb d7_begin_331 (lv_at hl 2 rfl) ?_
                            refine lv_if_eq (tgt := 340) hx hb d7_begin_333 (by decide) (fun _ => ?_) (fun c => absurd (by decide) c)
                            refine lv_iconst (v := 0) hx hb d7_begin_340 (by decide) ?_
                            refine sr_put hx hb hw hown hK hB 31 (hX 20 (by decide)) cf_20 us7 tk7 nm7 (by decide) fl_7_159 rfl rfl rfl rfl d7_begin_341 (fun H locs hB => ?_)
                            refine lv_aload_n hx hb d7_begin_344 rfl (lv_at hl 5 rfl) ?_
                            refine lv_iconst (v := 0) hx hb d7_begin_345 (by decide) ?_
                            refine sr_put hx hb hw hown hK hB 32 (hX 20 (by decide)) cf_20 us7 tk7 nm7 (by decide) fl_7_163 rfl rfl rfl rfl d7_begin_346 (fun H locs hB => ?_)
                            refine lv_aload_n hx hb d7_begin_349 rfl (lv_at hl 5 rfl) ?_
                            refine lv_iconst (v := 0) hx hb d7_begin_350 (by decide) ?_
                            refine sr_put hx hb hw hown hK hB 33 (hX 20 (by decide)) cf_20 us7 tk7 nm7 (by decide) fl_7_166 rfl rfl rfl rfl d7_begin_351 (fun H locs hB => ?_)
                            refine lv_aload_n hx hb d7_begin_354 rfl (lv_at hl 5 rfl) ?_
                            refine lv_aload_n hx hb d7_begin_355 rfl (lv_at hl 5 rfl) ?_
                            refine sr_get (v := .int (S 20 0 0)) hx hb hw hown hK hB 0 (hX 20 (by decide)) cf_20 us7 (by decide) fl_7_100 (rfl) d7_begin_356 ?_
                            refine sr_put hx hb hw hown hK hB 7 (hX 20 (by decide)) cf_20 us7 tk7 nm7 (by decide) fl_7_114 rfl rfl rfl rfl d7_begin_359 (fun H locs hB => ?_)
                            refine lv_iload hx hb d7_begin_362 (lv_at hl 1 rfl) ?_
                            exact se_i C0 hB (by rw [if_neg c_1, if_neg c_3, if_neg c_4, if_pos c_7, if_pos c_9, if_pos c_10, if_neg c_11, if_neg c_12, if_pos c_13, if_pos c_15, if_neg c_16, if_pos c_21, if_neg c_22] at hO; exact hO) d7_begin_364
                        · refine lv_bipush (v := (-7)) hx hb d7_begin_245 (by decide) ?_
                          refine lv_goto (tgt := 283) hx hb d7_begin_247 (by decide) ?_
                          refine lv_istore (lv' := [(6, .int (-7)), (7, .int x2), (5, .int 0), (4, .int (A 35 0 (x2.toNatClampNeg))), (3, .int 1), (0, .ref (ad 20 0)), (1, .int x1), (2, .int x2)]) hx hb d7_begin_283 hl (by decide) rfl (fun ls hl => ?_)
                          refine lv_iload hx hb d7_begin_285 (lv_at hl 0 rfl) ?_
                          refine lv_if_ge (tgt := 293) hx hb d7_begin_287 (by decide) (fun c => absurd c (by decide)) (fun _ => ?_)
                          refine lv_iload hx hb d7_begin_290 (lv_at hl 0 rfl) ?_
                          exact se_i C0 hB (by rw [if_neg c_1, if_neg c_3, if_neg c_4, if_pos c_7, if_pos c_9, if_pos c_10, if_neg c_11, if_neg c_12, if_pos c_13, if_pos c_15, if_neg c_16, if_neg c_21] at hO; exact hO) d7_begin_292
                      · refine lv_bipush (v := (-5)) hx hb d7_begin_194 (by decide) ?_
                        refine lv_istore (lv' := [(6, .int (-5)), (5, .int 0), (4, .int (A 35 0 (x2.toNatClampNeg))), (3, .int 1), (0, .ref (ad 20 0)), (1, .int x1), (2, .int x2)]) hx hb d7_begin_196 hl (by decide) rfl (fun ls hl => ?_)
                        refine lv_iload hx hb d7_begin_198 (lv_at hl 0 rfl) ?_
                        refine lv_if_ne (tgt := 219) hx hb d7_begin_200 (by decide) (fun _ => ?_) (fun c => absurd c (by decide))
                        refine lv_iload_n hx hb d7_begin_219 rfl (lv_at hl 5 rfl) ?_
                        refine lv_if_ne (tgt := 232) hx hb d7_begin_220 (by decide) (fun _ => ?_) (fun c => absurd c c_3)
                        refine lv_iload_n hx hb d7_begin_232 rfl (lv_at hl 6 rfl) ?_
                        refine lv_istore (lv' := [(7, .int x2), (6, .int (-5)), (5, .int 0), (4, .int (A 35 0 (x2.toNatClampNeg))), (3, .int 1), (0, .ref (ad 20 0)), (1, .int x1), (2, .int x2)]) hx hb d7_begin_233 hl (by decide) rfl (fun ls hl => ?_)
                        refine lv_iload hx hb d7_begin_235 (lv_at hl 1 rfl) ?_
                        refine lv_if_ne (tgt := 285) hx hb d7_begin_237 (by decide) (fun _ => ?_) (fun c => absurd c (by decide))
                        refine lv_iload hx hb d7_begin_285 (lv_at hl 1 rfl) ?_
                        refine lv_if_ge (tgt := 293) hx hb d7_begin_287 (by decide) (fun c => absurd c (by decide)) (fun _ => ?_)
                        refine lv_iload hx hb d7_begin_290 (lv_at hl 1 rfl) ?_
                        exact se_i C0 hB (by rw [if_neg c_1, if_neg c_3, if_neg c_4, if_pos c_7, if_pos c_9, if_pos c_10, if_neg c_11, if_neg c_12, if_pos c_13, if_pos c_15, if_pos c_16] at hO; exact hO) d7_begin_292
                    · refine lv_iload_n hx hb d7_begin_178 rfl (lv_at hl 5 rfl) ?_
                      refine lv_if_ne (tgt := 198) hx hb d7_begin_179 (by decide) (fun _ => ?_) (fun c => absurd c c_3)
                      refine lv_iload hx hb d7_begin_198 (lv_at hl 0 rfl) ?_
                      refine lv_if_ne (tgt := 219) hx hb d7_begin_200 (by decide) (fun c => absurd (by decide) c) (fun _ => ?_)
                      refine lv_iload_n hx hb d7_begin_203 rfl (lv_at hl 5 rfl) ?_
                      refine lv_if_ne (tgt := 219) hx hb d7_begin_204 (by decide) (fun _ => ?_) (fun c => absurd c c_3)
                      refine lv_iload_n hx hb d7_begin_219 rfl (lv_at hl 5 rfl) ?_
                      refine lv_if_ne (tgt := 232) hx hb d7_begin_220 (by decide) (fun _ => ?_) (fun c => absurd c c_3)
                      refine lv_iload_n hx hb d7_begin_232 rfl (lv_at hl 6 rfl) ?_
                      refine lv_istore (lv' := [(7, .int x2), (6, .int 0), (5, .int 0), (4, .int (A 35 0 (x2.toNatClampNeg))), (3, .int 1), (0, .ref (ad 20 0)), (1, .int x1), (2, .int x2)]) hx hb d7_begin_233 hl (by decide) rfl (fun ls hl => ?_)
                      refine lv_iload hx hb d7_begin_235 (lv_at hl 1 rfl) ?_
                      refine lv_if_ne (tgt := 285) hx hb d7_begin_237 (by decide) (fun c => absurd (by decide) c) (fun _ => ?_)
                      refine lv_iload hx hb d7_begin_240 (lv_at hl 0 rfl) ?_
                      refine lv_if_ge (tgt := 250) hx hb d7_begin_242 (by decide) (fun c_39 => ?_) (fun c_39 => ?_)
                      · refine lv_aload_n hx hb d7_begin_250 rfl (lv_at hl 5 rfl) ?_
                        refine sr_get (v := .int (S 20 0 34)) hx hb hw hown hK hB 34 (hX 20 (by decide)) cf_20 us7 (by decide) fl_7_130 (rfl) d7_begin_251 ?_
                        refine lv_sipush (v := 290) hx hb d7_begin_254 (by decide) ?_
                        refine lv_icmp_ge (tgt := 277) hx hb d7_begin_257 (by decide) (fun c_40 => ?_) (fun c_40 => ?_)
                        · refine lv_bipush (v := (-8)) hx hb d7_begin_277 (by decide) ?_
                          refine lv_goto (tgt := 283) hx hb d7_begin_279 (by decide) ?_
                          refine lv_istore (lv' := [(6, .int (-8)), (7, .int x2), (5, .int 0), (4, .int (A 35 0 (x2.toNatClampNeg))), (3, .int 1), (0, .ref (ad 20 0)), (1, .int x1), (2, .int x2)]) hx hb d7_begin_283 hl (by decide) rfl (fun ls hl => ?_)
                          refine lv_iload hx hb d7_begin_285 (lv_at hl 0 rfl) ?_
                          refine lv_if_ge (tgt := 293) hx hb d7_begin_287 (by decide) (fun c => absurd c (by decide)) (fun _ => ?_)
                          refine lv_iload hx hb d7_begin_290 (lv_at hl 0 rfl) ?_
                          exact se_i C0 hB (by rw [if_neg c_1, if_neg c_3, if_neg c_4, if_pos c_7, if_pos c_9, if_pos c_10, if_neg c_11, if_neg c_12, if_pos c_13, if_neg c_15, if_pos c_39, if_pos c_40] at hO; exact hO) d7_begin_292
                        · refine lv_iload_n hx hb d7_begin_260 rfl (lv_at hl 6 rfl) ?_
                          refine lv_iconst (v := 1) hx hb d7_begin_261 (by decide) ?_
                          refine lv_icmp_ne (tgt := 282) hx hb d7_begin_262 (by decide) (fun _ => ?_) (fun c => absurd c c_11)
                          refine lv_iconst (v := 0) hx hb d7_begin_282 (by decide) ?_
                          refine lv_istore (lv' := [(6, .int 0), (7, .int x2), (5, .int 0), (4, .int (A 35 0 (x2.toNatClampNeg))), (3, .int 1), (0, .ref (ad 20 0)), (1, .int x1), (2, .int x2)]) hx hb d7_begin_283 hl (by decide) rfl (fun ls hl => ?_)
                          refine lv_iload hx hb d7_begin_285 (lv_at hl 0 rfl) ?_
                          refine lv_if_ge (tgt := 293) hx hb d7_begin_287 (by decide) (fun _ => ?_) (fun c => absurd (by decide) c)
                          refine lv_aload_n hx hb d7_begin_293 rfl (lv_at hl 5 rfl) ?_
                          refine lv_iload_n hx hb d7_begin_294 rfl (lv_at hl 6 rfl) ?_
                          refine sr_put hx hb hw hown hK hB 27 (hX 20 (by decide)) cf_20 us7 tk7 nm7 (by decide) fl_7_81 rfl rfl rfl rfl d7_begin_295 (fun H locs hB => ?_)
                          refine lv_aload_n hx hb d7_begin_298 rfl (lv_at hl 5 rfl) ?_
                          refine lv_iload hx hb d7_begin_299 (lv_at hl 1 rfl) ?_
                          refine sr_put hx hb hw hown hK hB 28 (hX 20 (by decide)) cf_20 us7 tk7 nm7 (by decide) fl_7_153 rfl rfl rfl rfl d7_begin_301 (fun H locs hB => ?_)
                          refine lv_aload_n hx hb d7_begin_304 rfl (lv_at hl 5 rfl) ?_
                          refine lv_iload_n hx hb d7_begin_305 rfl (lv_at hl 6 rfl) ?_
                          refine lv_if_ne (tgt := 313) hx hb d7_begin_306 (by decide) (fun _ => ?_) (fun c => absurd c c_3)
                          refine lv_iconst (v := (-1)) hx hb d7_begin_313 (by decide) ?_
                          refine sr_put hx hb hw hown hK hB 29 (hX 20 (by decide)) cf_20 us7 tk7 nm7 (by decide) fl_7_124 rfl rfl rfl rfl d7_begin_314 (fun H locs hB => ?_)
                          refine lv_aload_n hx hb d7_begin_317 rfl (lv_at hl 5 rfl) ?_
                          refine lv_aload_n hx hb d7_begin_318 rfl (lv_at hl 5 rfl) ?_
                          refine sr_get (v := .int (S 20 0 0)) hx hb hw hown hK hB 0 (hX 20 (by decide)) cf_20 us7 (by decide) fl_7_100 (rfl) d7_begin_319 ?_
                          refine sr_put hx hb hw hown hK hB 30 (hX 20 (by decide)) cf_20 us7 tk7 nm7 (by decide) fl_7_156 rfl rfl rfl rfl d7_begin_322 (fun H locs hB => ?_)
                          refine lv_aload_n hx hb d7_begin_325 rfl (lv_at hl 5 rfl) ?_
                          refine lv_iload_n hx hb d7_begin_326 rfl (lv_at hl 6 rfl) ?_
                          refine lv_iconst (v := 2) hx hb d7_begin_327 (by decide) ?_
                          refine lv_icmp_eq (tgt := 336) hx hb d7_begin_328 (by decide) (fun c_45 => ?_) (fun c_45 => ?_)
                          · refine lv_iconst (v := 1) hx hb d7_begin_336 (by decide) ?_
                            refine lv_goto (tgt := 341) hx hb d7_begin_337 (by decide) ?_
                            refine sr_put hx hb hw hown hK hB 31 (hX 20 (by decide)) cf_20 us7 tk7 nm7 (by decide) fl_7_159 rfl rfl rfl rfl d7_begin_341 (fun H locs hB => ?_)
                            refine lv_aload_n hx hb d7_begin_344 rfl (lv_at hl 5 rfl) ?_
                            refine lv_iconst (v := 0) hx hb d7_begin_345 (by decide) ?_
                            refine sr_put hx hb hw hown hK hB 32 (hX 20 (by decide)) cf_20 us7 tk7 nm7 (by decide) fl_7_163 rfl rfl rfl rfl d7_begin_346 (fun H locs hB => ?_)
                            refine lv_aload_n hx hb d7_begin_349 rfl (lv_at hl 5 rfl) ?_
                            refine lv_iconst (v := 0) hx hb d7_begin_350 (by decide) ?_
                            refine sr_put hx hb hw hown hK hB 33 (hX 20 (by decide)) cf_20 us7 tk7 nm7 (by decide) fl_7_166 rfl rfl rfl rfl d7_begin_351 (fun H locs hB => ?_)
                            refine lv_aload_n hx hb d7_begin_354 rfl (lv_at hl 5 rfl) ?_
                            refine lv_aload_n hx hb d7_begin_355 rfl (lv_at hl 5 rfl) ?_
                            refine sr_get (v := .int (S 20 0 0)) hx hb hw hown hK hB 0 (hX 20 (by decide)) cf_20 us7 (by decide) fl_7_100 (rfl) d7_begin_356 ?_
                            refine sr_put hx hb hw hown hK hB 7 (hX 20 (by decide)) cf_20 us7 tk7 nm7 (by decide) fl_7_114 rfl rfl rfl rfl d7_begin_359 (fun H locs hB => ?_)
                            refine lv_iload hx hb d7_begin_362 (lv_at hl 1 rfl) ?_
                            exact se_i C0 hB (by rw [if_neg c_1, if_neg c_3, if_neg c_4, if_pos c_7, if_pos c_9, if_pos c_10, if_neg c_11, if_neg c_12, if_pos c_13, if_neg c_15, if_pos c_39, if_neg c_40, if_pos c_45] at hO; exact hO) d7_begin_364
                          · refine lv_iload hx hb d7_begin_331 (lv_at hl 2 rfl) ?_
                            refine lv_if_eq (tgt := 340) hx hb d7_begin_333 (by decide) (fun _ => ?_) (fun c => absurd (by decide) c)
                            refine lv_iconst (v := 0) hx hb d7_begin_340 (by decide) ?_
                            refine sr_put hx hb hw hown hK hB 31 (hX 20 (by decide)) cf_20 us7 tk7 nm7 (by decide) fl_7_159 rfl rfl rfl rfl d7_begin_341 (fun H locs hB => ?_)
                            refine lv_aload_n hx hb d7_begin_344 rfl (lv_at hl 5 rfl) ?_
                            refine lv_iconst (v := 0) hx hb d7_begin_345 (by decide) ?_
                            refine sr_put hx hb hw hown hK hB 32 (hX 20 (by decide)) cf_20 us7 tk7 nm7 (by decide) fl_7_163 rfl rfl rfl rfl d7_begin_346 (fun H locs hB => ?_)
                            refine lv_aload_n hx hb d7_begin_349 rfl (lv_at hl 5 rfl) ?_
                            refine lv_iconst (v := 0) hx hb d7_begin_350 (by decide) ?_
                            refine sr_put hx hb hw hown hK hB 33 (hX 20 (by decide)) cf_20 us7 tk7 nm7 (by decide) fl_7_166 rfl rfl rfl rfl d7_begin_351 (fun H locs hB => ?_)
                            refine lv_aload_n hx hb d7_begin_354 rfl (lv_at hl 5 rfl) ?_
                            refine lv_aload_n hx hb d7_begin_355 rfl (lv_at hl 5 rfl) ?_
                            refine sr_get (v := .int (S 20 0 0)) hx hb hw hown hK hB 0 (hX 20 (by decide)) cf_20 us7 (by decide) fl_7_100 (rfl) d7_begin_356 ?_
                            refine sr_put hx hb hw hown hK hB 7 (hX 20 (by decide)) cf_20 us7 tk7 nm7 (by decide) fl_7_114 rfl rfl rfl rfl d7_begin_359 (fun H locs hB => ?_)
                            refine lv_iload hx hb d7_begin_362 (lv_at hl 1 rfl) ?_
                            exact se_i C0 hB (by rw [if_neg c_1, if_neg c_3, if_neg c_4, if_pos c_7, if_pos c_9, if_pos c_10, if_neg c_11, if_neg c_12, if_pos c_13, if_neg c_15, if_pos c_39, if_neg c_40, if_neg c_45] at hO; exact hO) d7_begin_364
                      · refine lv_bipush (v := (-7)) hx hb d7_begin_245 (by decide) ?_
                        refine lv_goto (tgt := 283) hx hb d7_begin_247 (by decide) ?_
                        refine lv_istore (lv' := [(6, .int (-7)), (7, .int x2), (5, .int 0), (4, .int (A 35 0 (x2.toNatClampNeg))), (3, .int 1), (0, .ref (ad 20 0)), (1, .int x1), (2, .int x2)]) hx hb d7_begin_283 hl (by decide) rfl (fun ls hl => ?_)
                        refine lv_iload hx hb d7_begin_285 (lv_at hl 0 rfl) ?_
                        refine lv_if_ge (tgt := 293) hx hb d7_begin_287 (by decide) (fun c => absurd c (by decide)) (fun _ => ?_)
                        refine lv_iload hx hb d7_begin_290 (lv_at hl 0 rfl) ?_
                        exact se_i C0 hB (by rw [if_neg c_1, if_neg c_3, if_neg c_4, if_pos c_7, if_pos c_9, if_pos c_10, if_neg c_11, if_neg c_12, if_pos c_13, if_neg c_15, if_neg c_39] at hO; exact hO) d7_begin_292
                  · refine lv_bipush (v := (-4)) hx hb d7_begin_160 (by decide) ?_
                    refine lv_goto (tgt := 166) hx hb d7_begin_162 (by decide) ?_
                    refine lv_istore (lv' := [(6, .int (-4)), (5, .int 0), (4, .int (A 35 0 (x2.toNatClampNeg))), (3, .int 1), (0, .ref (ad 20 0)), (1, .int x1), (2, .int x2)]) hx hb d7_begin_166 hl (by decide) rfl (fun ls hl => ?_)
                    refine lv_iload hx hb d7_begin_168 (lv_at hl 0 rfl) ?_
                    refine lv_if_ne (tgt := 198) hx hb d7_begin_170 (by decide) (fun _ => ?_) (fun c => absurd c (by decide))
                    refine lv_iload hx hb d7_begin_198 (lv_at hl 0 rfl) ?_
                    refine lv_if_ne (tgt := 219) hx hb d7_begin_200 (by decide) (fun _ => ?_) (fun c => absurd c (by decide))
                    refine lv_iload_n hx hb d7_begin_219 rfl (lv_at hl 5 rfl) ?_
                    refine lv_if_ne (tgt := 232) hx hb d7_begin_220 (by decide) (fun _ => ?_) (fun c => absurd c c_3)
                    refine lv_iload_n hx hb d7_begin_232 rfl (lv_at hl 6 rfl) ?_
                    refine lv_istore (lv' := [(7, .int x2), (6, .int (-4)), (5, .int 0), (4, .int (A 35 0 (x2.toNatClampNeg))), (3, .int 1), (0, .ref (ad 20 0)), (1, .int x1), (2, .int x2)]) hx hb d7_begin_233 hl (by decide) rfl (fun ls hl => ?_)
                    refine lv_iload hx hb d7_begin_235 (lv_at hl 1 rfl) ?_
                    refine lv_if_ne (tgt := 285) hx hb d7_begin_237 (by decide) (fun _ => ?_) (fun c => absurd c (by decide))
                    refine lv_iload hx hb d7_begin_285 (lv_at hl 1 rfl) ?_
                    refine lv_if_ge (tgt := 293) hx hb d7_begin_287 (by decide) (fun c => absurd c (by decide)) (fun _ => ?_)
                    refine lv_iload hx hb d7_begin_290 (lv_at hl 1 rfl) ?_
                    exact se_i C0 hB (by rw [if_neg c_1, if_neg c_3, if_neg c_4, if_pos c_7, if_pos c_9, if_pos c_10, if_neg c_11, if_neg c_12, if_neg c_13] at hO; exact hO) d7_begin_292
                · refine lv_bipush (v := (-3)) hx hb d7_begin_148 (by decide) ?_
                  refine lv_goto (tgt := 166) hx hb d7_begin_150 (by decide) ?_
                  refine lv_istore (lv' := [(6, .int (-3)), (5, .int 0), (4, .int (A 35 0 (x2.toNatClampNeg))), (3, .int 1), (0, .ref (ad 20 0)), (1, .int x1), (2, .int x2)]) hx hb d7_begin_166 hl (by decide) rfl (fun ls hl => ?_)
                  refine lv_iload hx hb d7_begin_168 (lv_at hl 0 rfl) ?_
                  refine lv_if_ne (tgt := 198) hx hb d7_begin_170 (by decide) (fun _ => ?_) (fun c => absurd c (by decide))
                  refine lv_iload hx hb d7_begin_198 (lv_at hl 0 rfl) ?_
                  refine lv_if_ne (tgt := 219) hx hb d7_begin_200 (by decide) (fun _ => ?_) (fun c => absurd c (by decide))
                  refine lv_iload_n hx hb d7_begin_219 rfl (lv_at hl 5 rfl) ?_
                  refine lv_if_ne (tgt := 232) hx hb d7_begin_220 (by decide) (fun _ => ?_) (fun c => absurd c c_3)
                  refine lv_iload_n hx hb d7_begin_232 rfl (lv_at hl 6 rfl) ?_
                  refine lv_istore (lv' := [(7, .int x2), (6, .int (-3)), (5, .int 0), (4, .int (A 35 0 (x2.toNatClampNeg))), (3, .int 1), (0, .ref (ad 20 0)), (1, .int x1), (2, .int x2)]) hx hb d7_begin_233 hl (by decide) rfl (fun ls hl => ?_)
                  refine lv_iload hx hb d7_begin_235 (lv_at hl 1 rfl) ?_
                  refine lv_if_ne (tgt := 285) hx hb d7_begin_237 (by decide) (fun _ => ?_) (fun c => absurd c (by decide))
                  refine lv_iload hx hb d7_begin_285 (lv_at hl 1 rfl) ?_
                  refine lv_if_ge (tgt := 293) hx hb d7_begin_287 (by decide) (fun c => absurd c (by decide)) (fun _ => ?_)
                  refine lv_iload hx hb d7_begin_290 (lv_at hl 1 rfl) ?_
                  exact se_i C0 hB (by rw [if_neg c_1, if_neg c_3, if_neg c_4, if_pos c_7, if_pos c_9, if_pos c_10, if_neg c_11, if_pos c_12] at hO; exact hO) d7_begin_292
              · refine lv_aload_n hx hb d7_begin_122 rfl (lv_at hl 3 rfl) ?_
                refine sr_get (v := .ref (ad 23 0)) hx hb hw hown hK hB 2 (hX 20 (by decide)) cf_20 us7 (by decide) fl_7_13 (rfl) d7_begin_123 ?_
                refine lv_aload_n hx hb d7_begin_126 rfl (lv_at hl 3 rfl) ?_
                refine sr_get (v := .int (S 20 0 6)) hx hb hw hown hK hB 6 (hX 20 (by decide)) cf_20 us7 (by decide) fl_7_26 (rfl) d7_begin_127 ?_
                refine sr_iald (v := A 23 0 ((S 20 0 6).toNatClampNeg)) hx hb hK hB (hX 23 (by decide)) rfl rfl (by (refine vp_in_iff.mpr ?_); (show 0 ≤ (S 20 0 6).toInt ∧ (S 20 0 6).toInt < ((16 : Nat) : Int)); (have a1 := sub1_i (x := S 20 0 20) (by omega)); (have kc_4 := hasBin_t c_4); (have kc_10 := le_i c_10); (have l0 : (0 : Int32).toInt = 0 := rfl); (have l20 : (20 : Int32).toInt = 20 := rfl); (have l6 : (6 : Int32).toInt = 6 := rfl);  omega) d7_begin_130 (rfl) ?_
                refine lv_iconst (v := 1) hx hb d7_begin_131 (by decide) ?_
                refine lv_icmp_ne (tgt := 148) hx hb d7_begin_132 (by decide) (fun c_58 => ?_) (fun c_58 => ?_)
                · refine lv_bipush (v := (-3)) hx hb d7_begin_148 (by decide) ?_
                  refine lv_goto (tgt := 166) hx hb d7_begin_150 (by decide) ?_
                  refine lv_istore (lv' := [(6, .int (-3)), (5, .int 0), (4, .int (A 35 0 (x2.toNatClampNeg))), (3, .int 1), (0, .ref (ad 20 0)), (1, .int x1), (2, .int x2)]) hx hb d7_begin_166 hl (by decide) rfl (fun ls hl => ?_)
                  refine lv_iload hx hb d7_begin_168 (lv_at hl 0 rfl) ?_
                  refine lv_if_ne (tgt := 198) hx hb d7_begin_170 (by decide) (fun _ => ?_) (fun c => absurd c (by decide))
                  refine lv_iload hx hb d7_begin_198 (lv_at hl 0 rfl) ?_
                  refine lv_if_ne (tgt := 219) hx hb d7_begin_200 (by decide) (fun _ => ?_) (fun c => absurd c (by decide))
                  refine lv_iload_n hx hb d7_begin_219 rfl (lv_at hl 5 rfl) ?_
                  refine lv_if_ne (tgt := 232) hx hb d7_begin_220 (by decide) (fun _ => ?_) (fun c => absurd c c_3)
                  refine lv_iload_n hx hb d7_begin_232 rfl (lv_at hl 6 rfl) ?_
                  refine lv_istore (lv' := [(7, .int x2), (6, .int (-3)), (5, .int 0), (4, .int (A 35 0 (x2.toNatClampNeg))), (3, .int 1), (0, .ref (ad 20 0)), (1, .int x1), (2, .int x2)]) hx hb d7_begin_233 hl (by decide) rfl (fun ls hl => ?_)
                  refine lv_iload hx hb d7_begin_235 (lv_at hl 1 rfl) ?_
                  refine lv_if_ne (tgt := 285) hx hb d7_begin_237 (by decide) (fun _ => ?_) (fun c => absurd c (by decide))
                  refine lv_iload hx hb d7_begin_285 (lv_at hl 1 rfl) ?_
                  refine lv_if_ge (tgt := 293) hx hb d7_begin_287 (by decide) (fun c => absurd c (by decide)) (fun _ => ?_)
                  refine lv_iload hx hb d7_begin_290 (lv_at hl 1 rfl) ?_
                  exact se_i C0 hB (by rw [if_neg c_1, if_neg c_3, if_neg c_4, if_pos c_7, if_pos c_9, if_pos c_10, if_pos c_11, if_neg c_58] at hO; exact hO) d7_begin_292
                · refine lv_aload_n hx hb d7_begin_135 rfl (lv_at hl 3 rfl) ?_
                  refine sr_get (v := .ref (ad 23 0)) hx hb hw hown hK hB 2 (hX 20 (by decide)) cf_20 us7 (by decide) fl_7_13 (rfl) d7_begin_136 ?_
                  refine lv_aload_n hx hb d7_begin_139 rfl (lv_at hl 3 rfl) ?_
                  refine sr_get (v := .int (S 20 0 6)) hx hb hw hown hK hB 6 (hX 20 (by decide)) cf_20 us7 (by decide) fl_7_26 (rfl) d7_begin_140 ?_
                  refine sr_iald (v := A 23 0 ((S 20 0 6).toNatClampNeg)) hx hb hK hB (hX 23 (by decide)) rfl rfl (by (refine vp_in_iff.mpr ?_); (show 0 ≤ (S 20 0 6).toInt ∧ (S 20 0 6).toInt < ((16 : Nat) : Int)); (have a1 := sub1_i (x := S 20 0 20) (by omega)); (have kc_4 := hasBin_t c_4); (have kc_10 := le_i c_10); (have l0 : (0 : Int32).toInt = 0 := rfl); (have l20 : (20 : Int32).toInt = 20 := rfl); (have l6 : (6 : Int32).toInt = 6 := rfl);  omega) d7_begin_143 (rfl) ?_
                  refine lv_iconst (v := 2) hx hb d7_begin_144 (by decide) ?_
                  refine lv_icmp_ne (tgt := 153) hx hb d7_begin_145 (by decide) (fun _ => ?_) (fun c => absurd c (by rw [c_58]; decide))
                  refine lv_aload_n hx hb d7_begin_153 rfl (lv_at hl 3 rfl) ?_
                  refine sr_get (v := .int (S 20 0 27)) hx hb hw hown hK hB 27 (hX 20 (by decide)) cf_20 us7 (by decide) fl_7_81 (rfl) d7_begin_154 ?_
                  refine lv_if_lt (tgt := 165) hx hb d7_begin_157 (by decide) (fun c_65 => ?_) (fun c_65 => ?_)
                  · refine lv_iconst (v := 0) hx hb d7_begin_165 (by decide) ?_
                    refine lv_istore (lv' := [(6, .int 0), (5, .int 0), (4, .int (A 35 0 (x2.toNatClampNeg))), (3, .int 1), (0, .ref (ad 20 0)), (1, .int x1), (2, .int x2)]) hx hb d7_begin_166 hl (by decide) rfl (fun ls hl => ?_)
                    refine lv_iload hx hb d7_begin_168 (lv_at hl 0 rfl) ?_
                    refine lv_if_ne (tgt := 198) hx hb d7_begin_170 (by decide) (fun c => absurd (by decide) c) (fun _ => ?_)
                    refine lv_iload_n hx hb d7_begin_173 rfl (lv_at hl 5 rfl) ?_
                    refine lv_iconst (v := 3) hx hb d7_begin_174 (by decide) ?_
                    refine lv_icmp_eq (tgt := 187) hx hb d7_begin_175 (by decide) (fun c => absurd c (by rw [c_11]; decide)) (fun _ => ?_)
                    refine lv_iload_n hx hb d7_begin_178 rfl (lv_at hl 5 rfl) ?_
                    refine lv_if_ne (tgt := 198) hx hb d7_begin_179 (by decide) (fun _ => ?_) (fun c => absurd c c_3)
                    refine lv_iload hx hb d7_begin_198 (lv_at hl 0 rfl) ?_
                    refine lv_if_ne (tgt := 219) hx hb d7_begin_200 (by decide) (fun c => absurd (by decide) c) (fun _ => ?_)
                    refine lv_iload_n hx hb d7_begin_203 rfl (lv_at hl 5 rfl) ?_
                    refine lv_if_ne (tgt := 219) hx hb d7_begin_204 (by decide) (fun _ => ?_) (fun c => absurd c c_3)
                    refine lv_iload_n hx hb d7_begin_219 rfl (lv_at hl 5 rfl) ?_
                    refine lv_if_ne (tgt := 232) hx hb d7_begin_220 (by decide) (fun _ => ?_) (fun c => absurd c c_3)
                    refine lv_iload_n hx hb d7_begin_232 rfl (lv_at hl 6 rfl) ?_
                    refine lv_istore (lv' := [(7, .int x2), (6, .int 0), (5, .int 0), (4, .int (A 35 0 (x2.toNatClampNeg))), (3, .int 1), (0, .ref (ad 20 0)), (1, .int x1), (2, .int x2)]) hx hb d7_begin_233 hl (by decide) rfl (fun ls hl => ?_)
                    refine lv_iload hx hb d7_begin_235 (lv_at hl 1 rfl) ?_
                    refine lv_if_ne (tgt := 285) hx hb d7_begin_237 (by decide) (fun c => absurd (by decide) c) (fun _ => ?_)
                    refine lv_iload hx hb d7_begin_240 (lv_at hl 0 rfl) ?_
                    refine lv_if_ge (tgt := 250) hx hb d7_begin_242 (by decide) (fun c_73 => ?_) (fun c_73 => ?_)
                    · refine lv_aload_n hx hb d7_begin_250 rfl (lv_at hl 5 rfl) ?_
                      refine sr_get (v := .int (S 20 0 34)) hx hb hw hown hK hB 34 (hX 20 (by decide)) cf_20 us7 (by decide) fl_7_130 (rfl) d7_begin_251 ?_
                      refine lv_sipush (v := 290) hx hb d7_begin_254 (by decide) ?_
                      refine lv_icmp_ge (tgt := 277) hx hb d7_begin_257 (by decide) (fun c_74 => ?_) (fun c_74 => ?_)
                      · refine lv_bipush (v := (-8)) hx hb d7_begin_277 (by decide) ?_
                        refine lv_goto (tgt := 283) hx hb d7_begin_279 (by decide) ?_
                        refine lv_istore (lv' := [(6, .int (-8)), (7, .int x2), (5, .int 0), (4, .int (A 35 0 (x2.toNatClampNeg))), (3, .int 1), (0, .ref (ad 20 0)), (1, .int x1), (2, .int x2)]) hx hb d7_begin_283 hl (by decide) rfl (fun ls hl => ?_)
                        refine lv_iload hx hb d7_begin_285 (lv_at hl 0 rfl) ?_
                        refine lv_if_ge (tgt := 293) hx hb d7_begin_287 (by decide) (fun c => absurd c (by decide)) (fun _ => ?_)
                        refine lv_iload hx hb d7_begin_290 (lv_at hl 0 rfl) ?_
                        exact se_i C0 hB (by rw [if_neg c_1, if_neg c_3, if_neg c_4, if_pos c_7, if_pos c_9, if_pos c_10, if_pos c_11, if_pos c_58, if_pos c_65, if_pos c_73, if_pos c_74] at hO; exact hO) d7_begin_292
                      · refine lv_iload_n hx hb d7_begin_260 rfl (lv_at hl 6 rfl) ?_
                        refine lv_iconst (v := 1) hx hb d7_begin_261 (by decide) ?_
                        refine lv_icmp_ne (tgt := 282) hx hb d7_begin_262 (by decide) (fun c => absurd c_11 c) (fun _ => ?_)
                        refine lv_aload_n hx hb d7_begin_265 rfl (lv_at hl 5 rfl) ?_
                        refine sr_get (v := .ref (ad 36 0)) hx hb hw hown hK hB 15 (hX 20 (by decide)) cf_20 us7 (by decide) fl_7_48 (rfl) d7_begin_266 ?_
                        refine lv_iload hx hb d7_begin_269 (lv_at hl 0 rfl) ?_
                        refine sr_iald (v := A 36 0 (x2.toNatClampNeg)) hx hb hK hB (hX 36 (by decide)) rfl rfl (by (refine vp_in_iff.mpr ?_); (show 0 ≤ x2.toInt ∧ x2.toInt < ((64 : Nat) : Int)); (have a1 := sub1_i (x := S 20 0 20) (by omega)); (have kc_4 := hasBin_t c_4); (have kc_73 := le_i c_73); (have l0 : (0 : Int32).toInt = 0 := rfl);  omega) d7_begin_271 (rfl) ?_
                        refine lv_bipush (v := 6) hx hb d7_begin_272 (by decide) ?_
                        refine lv_icmp_ne (tgt := 282) hx hb d7_begin_274 (by decide) (fun c_77 => ?_) (fun c_77 => ?_)
                        · refine lv_iconst (v := 0) hx hb d7_begin_282 (by decide) ?_
                          refine lv_istore (lv' := [(6, .int 0), (7, .int x2), (5, .int 0), (4, .int (A 35 0 (x2.toNatClampNeg))), (3, .int 1), (0, .ref (ad 20 0)), (1, .int x1), (2, .int x2)]) hx hb d7_begin_283 hl (by decide) rfl (fun ls hl => ?_)
                          refine lv_iload hx hb d7_begin_285 (lv_at hl 0 rfl) ?_
                          refine lv_if_ge (tgt := 293) hx hb d7_begin_287 (by decide) (fun _ => ?_) (fun c => absurd (by decide) c)
                          refine lv_aload_n hx hb d7_begin_293 rfl (lv_at hl 5 rfl) ?_
                          refine lv_iload_n hx hb d7_begin_294 rfl (lv_at hl 6 rfl) ?_
                          refine sr_put hx hb hw hown hK hB 27 (hX 20 (by decide)) cf_20 us7 tk7 nm7 (by decide) fl_7_81 rfl rfl rfl rfl d7_begin_295 (fun H locs hB => ?_)
                          refine lv_aload_n hx hb d7_begin_298 rfl (lv_at hl 5 rfl) ?_
                          refine lv_iload hx hb d7_begin_299 (lv_at hl 1 rfl) ?_
                          refine sr_put hx hb hw hown hK hB 28 (hX 20 (by decide)) cf_20 us7 tk7 nm7 (by decide) fl_7_153 rfl rfl rfl rfl d7_begin_301 (fun H locs hB => ?_)
                          refine lv_aload_n hx hb d7_begin_304 rfl (lv_at hl 5 rfl) ?_
                          refine lv_iload_n hx hb d7_begin_305 rfl (lv_at hl 6 rfl) ?_
                          refine lv_if_ne (tgt := 313) hx hb d7_begin_306 (by decide) (fun _ => ?_) (fun c => absurd c c_3)
                          refine lv_iconst (v := (-1)) hx hb d7_begin_313 (by decide) ?_
                          refine sr_put hx hb hw hown hK hB 29 (hX 20 (by decide)) cf_20 us7 tk7 nm7 (by decide) fl_7_124 rfl rfl rfl rfl d7_begin_314 (fun H locs hB => ?_)
                          refine lv_aload_n hx hb d7_begin_317 rfl (lv_at hl 5 rfl) ?_
                          refine lv_aload_n hx hb d7_begin_318 rfl (lv_at hl 5 rfl) ?_
                          refine sr_get (v := .int (S 20 0 0)) hx hb hw hown hK hB 0 (hX 20 (by decide)) cf_20 us7 (by decide) fl_7_100 (rfl) d7_begin_319 ?_
                          refine sr_put hx hb hw hown hK hB 30 (hX 20 (by decide)) cf_20 us7 tk7 nm7 (by decide) fl_7_156 rfl rfl rfl rfl d7_begin_322 (fun H locs hB => ?_)
                          refine lv_aload_n hx hb d7_begin_325 rfl (lv_at hl 5 rfl) ?_
                          refine lv_iload_n hx hb d7_begin_326 rfl (lv_at hl 6 rfl) ?_
                          refine lv_iconst (v := 2) hx hb d7_begin_327 (by decide) ?_
                          refine lv_icmp_eq (tgt := 336) hx hb d7_begin_328 (by decide) (fun c => absurd c (by rw [c_11]; decide)) (fun _ => ?_)
                          refine lv_iload hx hb d7_begin_331 (lv_at hl 2 rfl) ?_
                          refine lv_if_eq (tgt := 340) hx hb d7_begin_333 (by decide) (fun _ => ?_) (fun c => absurd (by decide) c)
                          refine lv_iconst (v := 0) hx hb d7_begin_340 (by decide) ?_
                          refine sr_put hx hb hw hown hK hB 31 (hX 20 (by decide)) cf_20 us7 tk7 nm7 (by decide) fl_7_159 rfl rfl rfl rfl d7_begin_341 (fun H locs hB => ?_)
                          refine lv_aload_n hx hb d7_begin_344 rfl (lv_at hl 5 rfl) ?_
                          refine lv_iconst (v := 0) hx hb d7_begin_345 (by decide) ?_
                          refine sr_put hx hb hw hown hK hB 32 (hX 20 (by decide)) cf_20 us7 tk7 nm7 (by decide) fl_7_163 rfl rfl rfl rfl d7_begin_346 (fun H locs hB => ?_)
                          refine lv_aload_n hx hb d7_begin_349 rfl (lv_at hl 5 rfl) ?_
                          refine lv_iconst (v := 0) hx hb d7_begin_350 (by decide) ?_
                          refine sr_put hx hb hw hown hK hB 33 (hX 20 (by decide)) cf_20 us7 tk7 nm7 (by decide) fl_7_166 rfl rfl rfl rfl d7_begin_351 (fun H locs hB => ?_)
                          refine lv_aload_n hx hb d7_begin_354 rfl (lv_at hl 5 rfl) ?_
                          refine lv_aload_n hx hb d7_begin_355 rfl (lv_at hl 5 rfl) ?_
                          refine sr_get (v := .int (S 20 0 0)) hx hb hw hown hK hB 0 (hX 20 (by decide)) cf_20 us7 (by decide) fl_7_100 (rfl) d7_begin_356 ?_
                          refine sr_put hx hb hw hown hK hB 7 (hX 20 (by decide)) cf_20 us7 tk7 nm7 (by decide) fl_7_114 rfl rfl rfl rfl d7_begin_359 (fun H locs hB => ?_)
                          refine lv_iload hx hb d7_begin_362 (lv_at hl 1 rfl) ?_
                          exact se_i C0 hB (by rw [if_neg c_1, if_neg c_3, if_neg c_4, if_pos c_7, if_pos c_9, if_pos c_10, if_pos c_11, if_pos c_58, if_pos c_65, if_pos c_73, if_neg c_74, if_neg c_77] at hO; exact hO) d7_begin_364
                        · refine lv_bipush (v := (-8)) hx hb d7_begin_277 (by decide) ?_
                          refine lv_goto (tgt := 283) hx hb d7_begin_279 (by decide) ?_
                          refine lv_istore (lv' := [(6, .int (-8)), (7, .int x2), (5, .int 0), (4, .int (A 35 0 (x2.toNatClampNeg))), (3, .int 1), (0, .ref (ad 20 0)), (1, .int x1), (2, .int x2)]) hx hb d7_begin_283 hl (by decide) rfl (fun ls hl => ?_)
                          refine lv_iload hx hb d7_begin_285 (lv_at hl 0 rfl) ?_
                          refine lv_if_ge (tgt := 293) hx hb d7_begin_287 (by decide) (fun c => absurd c (by decide)) (fun _ => ?_)
                          refine lv_iload hx hb d7_begin_290 (lv_at hl 0 rfl) ?_
                          exact se_i C0 hB (by rw [if_neg c_1, if_neg c_3, if_neg c_4, if_pos c_7, if_pos c_9, if_pos c_10, if_pos c_11, if_pos c_58, if_pos c_65, if_pos c_73, if_neg c_74, if_pos c_77] at hO; exact hO) d7_begin_292
                    · refine lv_bipush (v := (-7)) hx hb d7_begin_245 (by decide) ?_
                      refine lv_goto (tgt := 283) hx hb d7_begin_247 (by decide) ?_
                      refine lv_istore (lv' := [(6, .int (-7)), (7, .int x2), (5, .int 0), (4, .int (A 35 0 (x2.toNatClampNeg))), (3, .int 1), (0, .ref (ad 20 0)), (1, .int x1), (2, .int x2)]) hx hb d7_begin_283 hl (by decide) rfl (fun ls hl => ?_)
                      refine lv_iload hx hb d7_begin_285 (lv_at hl 0 rfl) ?_
                      refine lv_if_ge (tgt := 293) hx hb d7_begin_287 (by decide) (fun c => absurd c (by decide)) (fun _ => ?_)
                      refine lv_iload hx hb d7_begin_290 (lv_at hl 0 rfl) ?_
                      exact se_i C0 hB (by rw [if_neg c_1, if_neg c_3, if_neg c_4, if_pos c_7, if_pos c_9, if_pos c_10, if_pos c_11, if_pos c_58, if_pos c_65, if_neg c_73] at hO; exact hO) d7_begin_292
                  · refine lv_bipush (v := (-4)) hx hb d7_begin_160 (by decide) ?_
                    refine lv_goto (tgt := 166) hx hb d7_begin_162 (by decide) ?_
                    refine lv_istore (lv' := [(6, .int (-4)), (5, .int 0), (4, .int (A 35 0 (x2.toNatClampNeg))), (3, .int 1), (0, .ref (ad 20 0)), (1, .int x1), (2, .int x2)]) hx hb d7_begin_166 hl (by decide) rfl (fun ls hl => ?_)
                    refine lv_iload hx hb d7_begin_168 (lv_at hl 0 rfl) ?_
                    refine lv_if_ne (tgt := 198) hx hb d7_begin_170 (by decide) (fun _ => ?_) (fun c => absurd c (by decide))
                    refine lv_iload hx hb d7_begin_198 (lv_at hl 0 rfl) ?_
                    refine lv_if_ne (tgt := 219) hx hb d7_begin_200 (by decide) (fun _ => ?_) (fun c => absurd c (by decide))
                    refine lv_iload_n hx hb d7_begin_219 rfl (lv_at hl 5 rfl) ?_
                    refine lv_if_ne (tgt := 232) hx hb d7_begin_220 (by decide) (fun _ => ?_) (fun c => absurd c c_3)
                    refine lv_iload_n hx hb d7_begin_232 rfl (lv_at hl 6 rfl) ?_
                    refine lv_istore (lv' := [(7, .int x2), (6, .int (-4)), (5, .int 0), (4, .int (A 35 0 (x2.toNatClampNeg))), (3, .int 1), (0, .ref (ad 20 0)), (1, .int x1), (2, .int x2)]) hx hb d7_begin_233 hl (by decide) rfl (fun ls hl => ?_)
                    refine lv_iload hx hb d7_begin_235 (lv_at hl 1 rfl) ?_
                    refine lv_if_ne (tgt := 285) hx hb d7_begin_237 (by decide) (fun _ => ?_) (fun c => absurd c (by decide))
                    refine lv_iload hx hb d7_begin_285 (lv_at hl 1 rfl) ?_
                    refine lv_if_ge (tgt := 293) hx hb d7_begin_287 (by decide) (fun c => absurd c (by decide)) (fun _ => ?_)
                    refine lv_iload hx hb d7_begin_290 (lv_at hl 1 rfl) ?_
                    exact se_i C0 hB (by rw [if_neg c_1, if_neg c_3, if_neg c_4, if_pos c_7, if_pos c_9, if_pos c_10, if_pos c_11, if_pos c_58, if_neg c_65] at hO; exact hO) d7_begin_292
            · refine lv_bipush (v := (-2)) hx hb d7_begin_112 (by decide) ?_
              refine lv_goto (tgt := 166) hx hb d7_begin_114 (by decide) ?_
              refine lv_istore (lv' := [(6, .int (-2)), (5, .int 0), (4, .int (A 35 0 (x2.toNatClampNeg))), (3, .int 1), (0, .ref (ad 20 0)), (1, .int x1), (2, .int x2)]) hx hb d7_begin_166 hl (by decide) rfl (fun ls hl => ?_)
              refine lv_iload hx hb d7_begin_168 (lv_at hl 0 rfl) ?_
              refine lv_if_ne (tgt := 198) hx hb d7_begin_170 (by decide) (fun _ => ?_) (fun c => absurd c (by decide))
              refine lv_iload hx hb d7_begin_198 (lv_at hl 0 rfl) ?_
              refine lv_if_ne (tgt := 219) hx hb d7_begin_200 (by decide) (fun _ => ?_) (fun c => absurd c (by decide))
              refine lv_iload_n hx hb d7_begin_219 rfl (lv_at hl 5 rfl) ?_
              refine lv_if_ne (tgt := 232) hx hb d7_begin_220 (by decide) (fun _ => ?_) (fun c => absurd c c_3)
              refine lv_iload_n hx hb d7_begin_232 rfl (lv_at hl 6 rfl) ?_
              refine lv_istore (lv' := [(7, .int x2), (6, .int (-2)), (5, .int 0), (4, .int (A 35 0 (x2.toNatClampNeg))), (3, .int 1), (0, .ref (ad 20 0)), (1, .int x1), (2, .int x2)]) hx hb d7_begin_233 hl (by decide) rfl (fun ls hl => ?_)
              refine lv_iload hx hb d7_begin_235 (lv_at hl 1 rfl) ?_
              refine lv_if_ne (tgt := 285) hx hb d7_begin_237 (by decide) (fun _ => ?_) (fun c => absurd c (by decide))
              refine lv_iload hx hb d7_begin_285 (lv_at hl 1 rfl) ?_
              refine lv_if_ge (tgt := 293) hx hb d7_begin_287 (by decide) (fun c => absurd c (by decide)) (fun _ => ?_)
              refine lv_iload hx hb d7_begin_290 (lv_at hl 1 rfl) ?_
              exact se_i C0 hB (by rw [if_neg c_1, if_neg c_3, if_neg c_4, if_pos c_7, if_pos c_9, if_neg c_10] at hO; exact hO) d7_begin_292
          · refine lv_aload_n hx hb d7_begin_83 rfl (lv_at hl 2 rfl) ?_
            refine sr_get (v := .ref (ad 32 0)) hx hb hw hown hK hB 11 (hX 20 (by decide)) cf_20 us7 (by decide) fl_7_36 (rfl) d7_begin_84 ?_
            refine lv_iload hx hb d7_begin_87 (lv_at hl 0 rfl) ?_
            refine sr_zald (v := A 32 0 ((A 35 0 (x2.toNatClampNeg)).toNatClampNeg)) hx hb hK hB (hX 32 (by decide)) rfl rfl (by (refine vp_in_iff.mpr ?_); (show 0 ≤ (A 35 0 (x2.toNatClampNeg)).toInt ∧ (A 35 0 (x2.toNatClampNeg)).toInt < ((32 : Nat) : Int)); (have a1 := sub1_i (x := S 20 0 20) (by omega)); (have kc_4 := hasBin_t c_4); (have kc_9 := nlt_i c_9); (have l0 : (0 : Int32).toInt = 0 := rfl); (have l35 : (35 : Int32).toInt = 35 := rfl); (have qi := at_i hit (x := x2) (by omega));  omega) d7_begin_89 (rfl) ?_
            refine lv_if_eq (tgt := 102) hx hb d7_begin_90 (by decide) (fun c_94 => ?_) (fun c_94 => ?_)
            · refine lv_iconst (v := 0) hx hb d7_begin_102 (by decide) ?_
              refine lv_istore (lv' := [(5, .int 0), (4, .int (A 35 0 (x2.toNatClampNeg))), (3, .int 1), (0, .ref (ad 20 0)), (1, .int x1), (2, .int x2)]) hx hb d7_begin_103 hl (by decide) rfl (fun ls hl => ?_)
              refine lv_aload_n hx hb d7_begin_105 rfl (lv_at hl 3 rfl) ?_
              refine sr_get (v := .int (S 20 0 6)) hx hb hw hown hK hB 6 (hX 20 (by decide)) cf_20 us7 (by decide) fl_7_26 (rfl) d7_begin_106 ?_
              refine lv_if_ge (tgt := 117) hx hb d7_begin_109 (by decide) (fun c_95 => ?_) (fun c_95 => ?_)
              · refine lv_iload_n hx hb d7_begin_117 rfl (lv_at hl 4 rfl) ?_
                refine lv_iconst (v := 1) hx hb d7_begin_118 (by decide) ?_
                refine lv_icmp_ne (tgt := 135) hx hb d7_begin_119 (by decide) (fun c_96 => ?_) (fun c_96 => ?_)
                · refine lv_aload_n hx hb d7_begin_135 rfl (lv_at hl 3 rfl) ?_
                  refine sr_get (v := .ref (ad 23 0)) hx hb hw hown hK hB 2 (hX 20 (by decide)) cf_20 us7 (by decide) fl_7_13 (rfl) d7_begin_136 ?_
                  refine lv_aload_n hx hb d7_begin_139 rfl (lv_at hl 3 rfl) ?_
                  refine sr_get (v := .int (S 20 0 6)) hx hb hw hown hK hB 6 (hX 20 (by decide)) cf_20 us7 (by decide) fl_7_26 (rfl) d7_begin_140 ?_
                  refine sr_iald (v := A 23 0 ((S 20 0 6).toNatClampNeg)) hx hb hK hB (hX 23 (by decide)) rfl rfl (by (refine vp_in_iff.mpr ?_); (show 0 ≤ (S 20 0 6).toInt ∧ (S 20 0 6).toInt < ((16 : Nat) : Int)); (have a1 := sub1_i (x := S 20 0 20) (by omega)); (have kc_4 := hasBin_t c_4); (have kc_95 := le_i c_95); (have l0 : (0 : Int32).toInt = 0 := rfl); (have l20 : (20 : Int32).toInt = 20 := rfl); (have l6 : (6 : Int32).toInt = 6 := rfl);  omega) d7_begin_143 (rfl) ?_
                  refine lv_iconst (v := 2) hx hb d7_begin_144 (by decide) ?_
                  refine lv_icmp_ne (tgt := 153) hx hb d7_begin_145 (by decide) (fun c_97 => ?_) (fun c_97 => ?_)
                  · refine lv_aload_n hx hb d7_begin_153 rfl (lv_at hl 3 rfl) ?_
                    refine sr_get (v := .int (S 20 0 27)) hx hb hw hown hK hB 27 (hX 20 (by decide)) cf_20 us7 (by decide) fl_7_81 (rfl) d7_begin_154 ?_
                    refine lv_if_lt (tgt := 165) hx hb d7_begin_157 (by decide) (fun c_98 => ?_) (fun c_98 => ?_)
                    · refine lv_iconst (v := 0) hx hb d7_begin_165 (by decide) ?_
                      refine lv_istore (lv' := [(6, .int 0), (5, .int 0), (4, .int (A 35 0 (x2.toNatClampNeg))), (3, .int 1), (0, .ref (ad 20 0)), (1, .int x1), (2, .int x2)]) hx hb d7_begin_166 hl (by decide) rfl (fun ls hl => ?_)
                      refine lv_iload hx hb d7_begin_168 (lv_at hl 0 rfl) ?_
                      refine lv_if_ne (tgt := 198) hx hb d7_begin_170 (by decide) (fun c => absurd (by decide) c) (fun _ => ?_)
                      refine lv_iload_n hx hb d7_begin_173 rfl (lv_at hl 5 rfl) ?_
                      refine lv_iconst (v := 3) hx hb d7_begin_174 (by decide) ?_
                      refine lv_icmp_eq (tgt := 187) hx hb d7_begin_175 (by decide) (fun c_100 => ?_) (fun c_100 => ?_)
                      · refine lv_aload_n hx hb d7_begin_187 rfl (lv_at hl 4 rfl) ?_
                        refine sr_vp C0 hB (m7_isWatched hX  ) (hX 20 (by decide)) cf_20 ml_7_143 im_7_isWatched se_7_isWatched in_7 cd_7_isWatched hd7_isWatched ⟨⟨rfl, rfl⟩, by decide, by decide⟩ ⟨Nat.zero_le _, Nat.zero_le _⟩ hl.1 rfl (Nat.le_of_ble_eq_true rfl) d7_begin_188 ?_
                        refine lv_if_ne (tgt := 198) hx hb d7_begin_191 (by decide) (fun c_101 => ?_) (fun c_101 => ?_)
                        · refine lv_iload hx hb d7_begin_198 (lv_at hl 0 rfl) ?_
                          refine lv_if_ne (tgt := 219) hx hb d7_begin_200 (by decide) (fun c => absurd (by decide) c) (fun _ => ?_)
                          refine lv_iload_n hx hb d7_begin_203 rfl (lv_at hl 5 rfl) ?_
                          refine lv_if_ne (tgt := 219) hx hb d7_begin_204 (by decide) (fun _ => ?_) (fun c => absurd c c_3)
                          refine lv_iload_n hx hb d7_begin_219 rfl (lv_at hl 5 rfl) ?_
                          refine lv_if_ne (tgt := 232) hx hb d7_begin_220 (by decide) (fun _ => ?_) (fun c => absurd c c_3)
                          refine lv_iload_n hx hb d7_begin_232 rfl (lv_at hl 6 rfl) ?_
                          refine lv_istore (lv' := [(7, .int x2), (6, .int 0), (5, .int 0), (4, .int (A 35 0 (x2.toNatClampNeg))), (3, .int 1), (0, .ref (ad 20 0)), (1, .int x1), (2, .int x2)]) hx hb d7_begin_233 hl (by decide) rfl (fun ls hl => ?_)
                          refine lv_iload hx hb d7_begin_235 (lv_at hl 1 rfl) ?_
                          refine lv_if_ne (tgt := 285) hx hb d7_begin_237 (by decide) (fun c => absurd (by decide) c) (fun _ => ?_)
                          refine lv_iload hx hb d7_begin_240 (lv_at hl 0 rfl) ?_
                          refine lv_if_ge (tgt := 250) hx hb d7_begin_242 (by decide) (fun c_106 => ?_) (fun c_106 => ?_)
                          · refine lv_aload_n hx hb d7_begin_250 rfl (lv_at hl 5 rfl) ?_
                            refine sr_get (v := .int (S 20 0 34)) hx hb hw hown hK hB 34 (hX 20 (by decide)) cf_20 us7 (by decide) fl_7_130 (rfl) d7_begin_251 ?_
                            refine lv_sipush (v := 290) hx hb d7_begin_254 (by decide) ?_
                            refine lv_icmp_ge (tgt := 277) hx hb d7_begin_257 (by decide) (fun c_107 => ?_) (fun c_107 => ?_)
                            · refine lv_bipush (v := (-8)) hx hb d7_begin_277 (by decide) ?_
                              refine lv_goto (tgt := 283) hx hb d7_begin_279 (by decide) ?_
                              refine lv_istore (lv' := [(6, .int (-8)), (7, .int x2), (5, .int 0), (4, .int (A 35 0 (x2.toNatClampNeg))), (3, .int 1), (0, .ref (ad 20 0)), (1, .int x1), (2, .int x2)]) hx hb d7_begin_283 hl (by decide) rfl (fun ls hl => ?_)
                              refine lv_iload hx hb d7_begin_285 (lv_at hl 0 rfl) ?_
                              refine lv_if_ge (tgt := 293) hx hb d7_begin_287 (by decide) (fun c => absurd c (by decide)) (fun _ => ?_)
                              refine lv_iload hx hb d7_begin_290 (lv_at hl 0 rfl) ?_
                              exact se_i C0 hB (by rw [if_neg c_1, if_neg c_3, if_neg c_4, if_pos c_7, if_neg c_9, if_pos c_94, if_pos c_95, if_neg c_96, if_neg c_97, if_pos c_98, if_pos c_100, if_neg c_101, if_pos c_106, if_pos c_107] at hO; exact hO) d7_begin_292
                            · refine lv_iload_n hx hb d7_begin_260 rfl (lv_at hl 6 rfl) ?_
                              refine lv_iconst (v := 1) hx hb d7_begin_261 (by decide) ?_
                              refine lv_icmp_ne (tgt := 282) hx hb d7_begin_262 (by decide) (fun _ => ?_) (fun c => absurd c c_96)
                              refine lv_iconst (v := 0) hx hb d7_begin_282 (by decide) ?_
                              refine lv_istore (lv' := [(6, .int 0), (7, .int x2), (5, .int 0), (4, .int (A 35 0 (x2.toNatClampNeg))), (3, .int 1), (0, .ref (ad 20 0)), (1, .int x1), (2, .int x2)]) hx hb d7_begin_283 hl (by decide) rfl (fun ls hl => ?_)
                              refine lv_iload hx hb d7_begin_285 (lv_at hl 0 rfl) ?_
                              refine lv_if_ge (tgt := 293) hx hb d7_begin_287 (by decide) (fun _ => ?_) (fun c => absurd (by decide) c)
                              refine lv_aload_n hx hb d7_begin_293 rfl (lv_at hl 5 rfl) ?_
                              refine lv_iload_n hx hb d7_begin_294 rfl (lv_at hl 6 rfl) ?_
                              refine sr_put hx hb hw hown hK hB 27 (hX 20 (by decide)) cf_20 us7 tk7 nm7 (by decide) fl_7_81 rfl rfl rfl rfl d7_begin_295 (fun H locs hB => ?_)
                              refine lv_aload_n hx hb d7_begin_298 rfl (lv_at hl 5 rfl) ?_
                              refine lv_iload hx hb d7_begin_299 (lv_at hl 1 rfl) ?_
                              refine sr_put hx hb hw hown hK hB 28 (hX 20 (by decide)) cf_20 us7 tk7 nm7 (by decide) fl_7_153 rfl rfl rfl rfl d7_begin_301 (fun H locs hB => ?_)
                              refine lv_aload_n hx hb d7_begin_304 rfl (lv_at hl 5 rfl) ?_
                              refine lv_iload_n hx hb d7_begin_305 rfl (lv_at hl 6 rfl) ?_
                              refine lv_if_ne (tgt := 313) hx hb d7_begin_306 (by decide) (fun _ => ?_) (fun c => absurd c c_3)
                              refine lv_iconst (v := (-1)) hx hb d7_begin_313 (by decide) ?_
                              refine sr_put hx hb hw hown hK hB 29 (hX 20 (by decide)) cf_20 us7 tk7 nm7 (by decide) fl_7_124 rfl rfl rfl rfl d7_begin_314 (fun H locs hB => ?_)
                              refine lv_aload_n hx hb d7_begin_317 rfl (lv_at hl 5 rfl) ?_
                              refine lv_aload_n hx hb d7_begin_318 rfl (lv_at hl 5 rfl) ?_
                              refine sr_get (v := .int (S 20 0 0)) hx hb hw hown hK hB 0 (hX 20 (by decide)) cf_20 us7 (by decide) fl_7_100 (rfl) d7_begin_319 ?_
                              refine sr_put hx hb hw hown hK hB 30 (hX 20 (by decide)) cf_20 us7 tk7 nm7 (by decide) fl_7_156 rfl rfl rfl rfl d7_begin_322 (fun H locs hB => ?_)
                              refine lv_aload_n hx hb d7_begin_325 rfl (lv_at hl 5 rfl) ?_
                              refine lv_iload_n hx hb d7_begin_326 rfl (lv_at hl 6 rfl) ?_
                              refine lv_iconst (v := 2) hx hb d7_begin_327 (by decide) ?_
                              refine lv_icmp_eq (tgt := 336) hx hb d7_begin_328 (by decide) (fun c => absurd c (by rw [c_100]; decide)) (fun _ => ?_)
                              refine lv_iload hx hb d7_begin_331 (lv_at hl 2 rfl) ?_
                              refine lv_if_eq (tgt := 340) hx hb d7_begin_333 (by decide) (fun _ => ?_) (fun c => absurd (by decide) c)
                              refine lv_iconst (v := 0) hx hb d7_begin_340 (by decide) ?_
                              refine sr_put hx hb hw hown hK hB 31 (hX 20 (by decide)) cf_20 us7 tk7 nm7 (by decide) fl_7_159 rfl rfl rfl rfl d7_begin_341 (fun H locs hB => ?_)
                              refine lv_aload_n hx hb d7_begin_344 rfl (lv_at hl 5 rfl) ?_
                              refine lv_iconst (v := 0) hx hb d7_begin_345 (by decide) ?_
                              refine sr_put hx hb hw hown hK hB 32 (hX 20 (by decide)) cf_20 us7 tk7 nm7 (by decide) fl_7_163 rfl rfl rfl rfl d7_begin_346 (fun H locs hB => ?_)
                              refine lv_aload_n hx hb d7_begin_349 rfl (lv_at hl 5 rfl) ?_
                              refine lv_iconst (v := 0) hx hb d7_begin_350 (by decide) ?_
                              refine sr_put hx hb hw hown hK hB 33 (hX 20 (by decide)) cf_20 us7 tk7 nm7 (by decide) fl_7_166 rfl rfl rfl rfl d7_begin_351 (fun H locs hB => ?_)
                              refine lv_aload_n hx hb d7_begin_354 rfl (lv_at hl 5 rfl) ?_
                              refine lv_aload_n hx hb d7_begin_355 rfl (lv_at hl 5 rfl) ?_
                              refine sr_get (v := .int (S 20 0 0)) hx hb hw hown hK hB 0 (hX 20 (by decide)) cf_20 us7 (by decide) fl_7_100 (rfl) d7_begin_356 ?_
                              refine sr_put hx hb hw hown hK hB 7 (hX 20 (by decide)) cf_20 us7 tk7 nm7 (by decide) fl_7_114 rfl rfl rfl rfl d7_begin_359 (fun H locs hB => ?_)
                              refine lv_iload hx hb d7_begin_362 (lv_at hl 1 rfl) ?_
                              exact se_i C0 hB (by rw [if_neg c_1, if_neg c_3, if_neg c_4, if_pos c_7, if_neg c_9, if_pos c_94, if_pos c_95, if_neg c_96, if_neg c_97, if_pos c_98, if_pos c_100, if_neg c_101, if_pos c_106, if_neg c_107] at hO; exact hO) d7_begin_364
                          · refine lv_bipush (v := (-7)) hx hb d7_begin_245 (by decide) ?_
                            refine lv_goto (tgt := 283) hx hb d7_begin_247 (by decide) ?_
                            refine lv_istore (lv' := [(6, .int (-7)), (7, .int x2), (5, .int 0), (4, .int (A 35 0 (x2.toNatClampNeg))), (3, .int 1), (0, .ref (ad 20 0)), (1, .int x1), (2, .int x2)]) hx hb d7_begin_283 hl (by decide) rfl (fun ls hl => ?_)
                            refine lv_iload hx hb d7_begin_285 (lv_at hl 0 rfl) ?_
                            refine lv_if_ge (tgt := 293) hx hb d7_begin_287 (by decide) (fun c => absurd c (by decide)) (fun _ => ?_)
                            refine lv_iload hx hb d7_begin_290 (lv_at hl 0 rfl) ?_
                            exact se_i C0 hB (by rw [if_neg c_1, if_neg c_3, if_neg c_4, if_pos c_7, if_neg c_9, if_pos c_94, if_pos c_95, if_neg c_96, if_neg c_97, if_pos c_98, if_pos c_100, if_neg c_101, if_neg c_106] at hO; exact hO) d7_begin_292
                        · refine lv_bipush (v := (-5)) hx hb d7_begin_194 (by decide) ?_
                          refine lv_istore (lv' := [(6, .int (-5)), (5, .int 0), (4, .int (A 35 0 (x2.toNatClampNeg))), (3, .int 1), (0, .ref (ad 20 0)), (1, .int x1), (2, .int x2)]) hx hb d7_begin_196 hl (by decide) rfl (fun ls hl => ?_)
                          refine lv_iload hx hb d7_begin_198 (lv_at hl 0 rfl) ?_
                          refine lv_if_ne (tgt := 219) hx hb d7_begin_200 (by decide) (fun _ => ?_) (fun c => absurd c (by decide))
                          refine lv_iload_n hx hb d7_begin_219 rfl (lv_at hl 5 rfl) ?_
                          refine lv_if_ne (tgt := 232) hx hb d7_begin_220 (by decide) (fun _ => ?_) (fun c => absurd c c_3)
                          refine lv_iload_n hx hb d7_begin_232 rfl (lv_at hl 6 rfl) ?_
                          refine lv_istore (lv' := [(7, .int x2), (6, .int (-5)), (5, .int 0), (4, .int (A 35 0 (x2.toNatClampNeg))), (3, .int 1), (0, .ref (ad 20 0)), (1, .int x1), (2, .int x2)]) hx hb d7_begin_233 hl (by decide) rfl (fun ls hl => ?_)
                          refine lv_iload hx hb d7_begin_235 (lv_at hl 1 rfl) ?_
                          refine lv_if_ne (tgt := 285) hx hb d7_begin_237 (by decide) (fun _ => ?_) (fun c => absurd c (by decide))
                          refine lv_iload hx hb d7_begin_285 (lv_at hl 1 rfl) ?_
                          refine lv_if_ge (tgt := 293) hx hb d7_begin_287 (by decide) (fun c => absurd c (by decide)) (fun _ => ?_)
                          refine lv_iload hx hb d7_begin_290 (lv_at hl 1 rfl) ?_
                          exact se_i C0 hB (by rw [if_neg c_1, if_neg c_3, if_neg c_4, if_pos c_7, if_neg c_9, if_pos c_94, if_pos c_95, if_neg c_96, if_neg c_97, if_pos c_98, if_pos c_100, if_pos c_101] at hO; exact hO) d7_begin_292
                      · refine lv_iload_n hx hb d7_begin_178 rfl (lv_at hl 5 rfl) ?_
                        refine lv_if_ne (tgt := 198) hx hb d7_begin_179 (by decide) (fun _ => ?_) (fun c => absurd c c_3)
                        refine lv_iload hx hb d7_begin_198 (lv_at hl 0 rfl) ?_
                        refine lv_if_ne (tgt := 219) hx hb d7_begin_200 (by decide) (fun c => absurd (by decide) c) (fun _ => ?_)
                        refine lv_iload_n hx hb d7_begin_203 rfl (lv_at hl 5 rfl) ?_
                        refine lv_if_ne (tgt := 219) hx hb d7_begin_204 (by decide) (fun _ => ?_) (fun c => absurd c c_3)
                        refine lv_iload_n hx hb d7_begin_219 rfl (lv_at hl 5 rfl) ?_
                        refine lv_if_ne (tgt := 232) hx hb d7_begin_220 (by decide) (fun _ => ?_) (fun c => absurd c c_3)
                        refine lv_iload_n hx hb d7_begin_232 rfl (lv_at hl 6 rfl) ?_
                        refine lv_istore (lv' := [(7, .int x2), (6, .int 0), (5, .int 0), (4, .int (A 35 0 (x2.toNatClampNeg))), (3, .int 1), (0, .ref (ad 20 0)), (1, .int x1), (2, .int x2)]) hx hb d7_begin_233 hl (by decide) rfl (fun ls hl => ?_)
                        refine lv_iload hx hb d7_begin_235 (lv_at hl 1 rfl) ?_
                        refine lv_if_ne (tgt := 285) hx hb d7_begin_237 (by decide) (fun c => absurd (by decide) c) (fun _ => ?_)
                        refine lv_iload hx hb d7_begin_240 (lv_at hl 0 rfl) ?_
                        refine lv_if_ge (tgt := 250) hx hb d7_begin_242 (by decide) (fun c_124 => ?_) (fun c_124 => ?_)
                        · refine lv_aload_n hx hb d7_begin_250 rfl (lv_at hl 5 rfl) ?_
                          refine sr_get (v := .int (S 20 0 34)) hx hb hw hown hK hB 34 (hX 20 (by decide)) cf_20 us7 (by decide) fl_7_130 (rfl) d7_begin_251 ?_
                          refine lv_sipush (v := 290) hx hb d7_begin_254 (by decide) ?_
                          refine lv_icmp_ge (tgt := 277) hx hb d7_begin_257 (by decide) (fun c_125 => ?_) (fun c_125 => ?_)
                          · refine lv_bipush (v := (-8)) hx hb d7_begin_277 (by decide) ?_
                            refine lv_goto (tgt := 283) hx hb d7_begin_279 (by decide) ?_
                            refine lv_istore (lv' := [(6, .int (-8)), (7, .int x2), (5, .int 0), (4, .int (A 35 0 (x2.toNatClampNeg))), (3, .int 1), (0, .ref (ad 20 0)), (1, .int x1), (2, .int x2)]) hx hb d7_begin_283 hl (by decide) rfl (fun ls hl => ?_)
                            refine lv_iload hx hb d7_begin_285 (lv_at hl 0 rfl) ?_
                            refine lv_if_ge (tgt := 293) hx hb d7_begin_287 (by decide) (fun c => absurd c (by decide)) (fun _ => ?_)
                            refine lv_iload hx hb d7_begin_290 (lv_at hl 0 rfl) ?_
                            exact se_i C0 hB (by rw [if_neg c_1, if_neg c_3, if_neg c_4, if_pos c_7, if_neg c_9, if_pos c_94, if_pos c_95, if_neg c_96, if_neg c_97, if_pos c_98, if_neg c_100, if_pos c_124, if_pos c_125] at hO; exact hO) d7_begin_292
                          · refine lv_iload_n hx hb d7_begin_260 rfl (lv_at hl 6 rfl) ?_
                            refine lv_iconst (v := 1) hx hb d7_begin_261 (by decide) ?_
                            refine lv_icmp_ne (tgt := 282) hx hb d7_begin_262 (by decide) (fun _ => ?_) (fun c => absurd c c_96)
                            refine lv_iconst (v := 0) hx hb d7_begin_282 (by decide) ?_
                            refine lv_istore (lv' := [(6, .int 0), (7, .int x2), (5, .int 0), (4, .int (A 35 0 (x2.toNatClampNeg))), (3, .int 1), (0, .ref (ad 20 0)), (1, .int x1), (2, .int x2)]) hx hb d7_begin_283 hl (by decide) rfl (fun ls hl => ?_)
                            refine lv_iload hx hb d7_begin_285 (lv_at hl 0 rfl) ?_
                            refine lv_if_ge (tgt := 293) hx hb d7_begin_287 (by decide) (fun _ => ?_) (fun c => absurd (by decide) c)
                            refine lv_aload_n hx hb d7_begin_293 rfl (lv_at hl 5 rfl) ?_
                            refine lv_iload_n hx hb d7_begin_294 rfl (lv_at hl 6 rfl) ?_
                            refine sr_put hx hb hw hown hK hB 27 (hX 20 (by decide)) cf_20 us7 tk7 nm7 (by decide) fl_7_81 rfl rfl rfl rfl d7_begin_295 (fun H locs hB => ?_)
                            refine lv_aload_n hx hb d7_begin_298 rfl (lv_at hl 5 rfl) ?_
                            refine lv_iload hx hb d7_begin_299 (lv_at hl 1 rfl) ?_
                            refine sr_put hx hb hw hown hK hB 28 (hX 20 (by decide)) cf_20 us7 tk7 nm7 (by decide) fl_7_153 rfl rfl rfl rfl d7_begin_301 (fun H locs hB => ?_)
                            refine lv_aload_n hx hb d7_begin_304 rfl (lv_at hl 5 rfl) ?_
                            refine lv_iload_n hx hb d7_begin_305 rfl (lv_at hl 6 rfl) ?_
                            refine lv_if_ne (tgt := 313) hx hb d7_begin_306 (by decide) (fun _ => ?_) (fun c => absurd c c_3)
                            refine lv_iconst (v := (-1)) hx hb d7_begin_313 (by decide) ?_
                            refine sr_put hx hb hw hown hK hB 29 (hX 20 (by decide)) cf_20 us7 tk7 nm7 (by decide) fl_7_124 rfl rfl rfl rfl d7_begin_314 (fun H locs hB => ?_)
                            refine lv_aload_n hx hb d7_begin_317 rfl (lv_at hl 5 rfl) ?_
                            refine lv_aload_n hx hb d7_begin_318 rfl (lv_at hl 5 rfl) ?_
                            refine sr_get (v := .int (S 20 0 0)) hx hb hw hown hK hB 0 (hX 20 (by decide)) cf_20 us7 (by decide) fl_7_100 (rfl) d7_begin_319 ?_
                            refine sr_put hx hb hw hown hK hB 30 (hX 20 (by decide)) cf_20 us7 tk7 nm7 (by decide) fl_7_156 rfl rfl rfl rfl d7_begin_322 (fun H locs hB => ?_)
                            refine lv_aload_n hx hb d7_begin_325 rfl (lv_at hl 5 rfl) ?_
                            refine lv_iload_n hx hb d7_begin_326 rfl (lv_at hl 6 rfl) ?_
                            refine lv_iconst (v := 2) hx hb d7_begin_327 (by decide) ?_
                            refine lv_icmp_eq (tgt := 336) hx hb d7_begin_328 (by decide) (fun c_130 => ?_) (fun c_130 => ?_)
                            · refine lv_iconst (v := 1) hx hb d7_begin_336 (by decide) ?_
                              refine lv_goto (tgt := 341) hx hb d7_begin_337 (by decide) ?_
                              refine sr_put hx hb hw hown hK hB 31 (hX 20 (by decide)) cf_20 us7 tk7 nm7 (by decide) fl_7_159 rfl rfl rfl rfl d7_begin_341 (fun H locs hB => ?_)
                              refine lv_aload_n hx hb d7_begin_344 rfl (lv_at hl 5 rfl) ?_
                              refine lv_iconst (v := 0) hx hb d7_begin_345 (by decide) ?_
                              refine sr_put hx hb hw hown hK hB 32 (hX 20 (by decide)) cf_20 us7 tk7 nm7 (by decide) fl_7_163 rfl rfl rfl rfl d7_begin_346 (fun H locs hB => ?_)
                              refine lv_aload_n hx hb d7_begin_349 rfl (lv_at hl 5 rfl) ?_
                              refine lv_iconst (v := 0) hx hb d7_begin_350 (by decide) ?_
                              refine sr_put hx hb hw hown hK hB 33 (hX 20 (by decide)) cf_20 us7 tk7 nm7 (by decide) fl_7_166 rfl rfl rfl rfl d7_begin_351 (fun H locs hB => ?_)
                              refine lv_aload_n hx hb d7_begin_354 rfl (lv_at hl 5 rfl) ?_
                              refine lv_aload_n hx hb d7_begin_355 rfl (lv_at hl 5 rfl) ?_
                              refine sr_get (v := .int (S 20 0 0)) hx hb hw hown hK hB 0 (hX 20 (by decide)) cf_20 us7 (by decide) fl_7_100 (rfl) d7_begin_356 ?_
                              refine sr_put hx hb hw hown hK hB 7 (hX 20 (by decide)) cf_20 us7 tk7 nm7 (by decide) fl_7_114 rfl rfl rfl rfl d7_begin_359 (fun H locs hB => ?_)
                              refine lv_iload hx hb d7_begin_362 (lv_at hl 1 rfl) ?_
                              exact se_i C0 hB (by rw [if_neg c_1, if_neg c_3, if_neg c_4, if_pos c_7, if_neg c_9, if_pos c_94, if_pos c_95, if_neg c_96, if_neg c_97, if_pos c_98, if_neg c_100, if_pos c_124, if_neg c_125, if_pos c_130] at hO; exact hO) d7_begin_364
                            · refine lv_iload hx hb d7_begin_331 (lv_at hl 2 rfl) ?_
                              refine lv_if_eq (tgt := 340) hx hb d7_begin_333 (by decide) (fun _ => ?_) (fun c => absurd (by decide) c)
                              refine lv_iconst (v := 0) hx hb d7_begin_340 (by decide) ?_
                              refine sr_put hx hb hw hown hK hB 31 (hX 20 (by decide)) cf_20 us7 tk7 nm7 (by decide) fl_7_159 rfl rfl rfl rfl d7_begin_341 (fun H locs hB => ?_)
                              refine lv_aload_n hx hb d7_begin_344 rfl (lv_at hl 5 rfl) ?_
                              refine lv_iconst (v := 0) hx hb d7_begin_345 (by decide) ?_
                              refine sr_put hx hb hw hown hK hB 32 (hX 20 (by decide)) cf_20 us7 tk7 nm7 (by decide) fl_7_163 rfl rfl rfl rfl d7_begin_346 (fun H locs hB => ?_)
                              refine lv_aload_n hx hb d7_begin_349 rfl (lv_at hl 5 rfl) ?_
                              refine lv_iconst (v := 0) hx hb d7_begin_350 (by decide) ?_
                              refine sr_put hx hb hw hown hK hB 33 (hX 20 (by decide)) cf_20 us7 tk7 nm7 (by decide) fl_7_166 rfl rfl rfl rfl d7_begin_351 (fun H locs hB => ?_)
                              refine lv_aload_n hx hb d7_begin_354 rfl (lv_at hl 5 rfl) ?_
                              refine lv_aload_n hx hb d7_begin_355 rfl (lv_at hl 5 rfl) ?_
                              refine sr_get (v := .int (S 20 0 0)) hx hb hw hown hK hB 0 (hX 20 (by decide)) cf_20 us7 (by decide) fl_7_100 (rfl) d7_begin_356 ?_
                              refine sr_put hx hb hw hown hK hB 7 (hX 20 (by decide)) cf_20 us7 tk7 nm7 (by decide) fl_7_114 rfl rfl rfl rfl d7_begin_359 (fun H locs hB => ?_)
                              refine lv_iload hx hb d7_begin_362 (lv_at hl 1 rfl) ?_
                              exact se_i C0 hB (by rw [if_neg c_1, if_neg c_3, if_neg c_4, if_pos c_7, if_neg c_9, if_pos c_94, if_pos c_95, if_neg c_96, if_neg c_97, if_pos c_98, if_neg c_100, if_pos c_124, if_neg c_125, if_neg c_130] at hO; exact hO) d7_begin_364
                        · refine lv_bipush (v := (-7)) hx hb d7_begin_245 (by decide) ?_
                          refine lv_goto (tgt := 283) hx hb d7_begin_247 (by decide) ?_
                          refine lv_istore (lv' := [(6, .int (-7)), (7, .int x2), (5, .int 0), (4, .int (A 35 0 (x2.toNatClampNeg))), (3, .int 1), (0, .ref (ad 20 0)), (1, .int x1), (2, .int x2)]) hx hb d7_begin_283 hl (by decide) rfl (fun ls hl => ?_)
                          refine lv_iload hx hb d7_begin_285 (lv_at hl 0 rfl) ?_
                          refine lv_if_ge (tgt := 293) hx hb d7_begin_287 (by decide) (fun c => absurd c (by decide)) (fun _ => ?_)
                          refine lv_iload hx hb d7_begin_290 (lv_at hl 0 rfl) ?_
                          exact se_i C0 hB (by rw [if_neg c_1, if_neg c_3, if_neg c_4, if_pos c_7, if_neg c_9, if_pos c_94, if_pos c_95, if_neg c_96, if_neg c_97, if_pos c_98, if_neg c_100, if_neg c_124] at hO; exact hO) d7_begin_292
                    · refine lv_bipush (v := (-4)) hx hb d7_begin_160 (by decide) ?_
                      refine lv_goto (tgt := 166) hx hb d7_begin_162 (by decide) ?_
                      refine lv_istore (lv' := [(6, .int (-4)), (5, .int 0), (4, .int (A 35 0 (x2.toNatClampNeg))), (3, .int 1), (0, .ref (ad 20 0)), (1, .int x1), (2, .int x2)]) hx hb d7_begin_166 hl (by decide) rfl (fun ls hl => ?_)
                      refine lv_iload hx hb d7_begin_168 (lv_at hl 0 rfl) ?_
                      refine lv_if_ne (tgt := 198) hx hb d7_begin_170 (by decide) (fun _ => ?_) (fun c => absurd c (by decide))
                      refine lv_iload hx hb d7_begin_198 (lv_at hl 0 rfl) ?_
                      refine lv_if_ne (tgt := 219) hx hb d7_begin_200 (by decide) (fun _ => ?_) (fun c => absurd c (by decide))
                      refine lv_iload_n hx hb d7_begin_219 rfl (lv_at hl 5 rfl) ?_
                      refine lv_if_ne (tgt := 232) hx hb d7_begin_220 (by decide) (fun _ => ?_) (fun c => absurd c c_3)
                      refine lv_iload_n hx hb d7_begin_232 rfl (lv_at hl 6 rfl) ?_
                      refine lv_istore (lv' := [(7, .int x2), (6, .int (-4)), (5, .int 0), (4, .int (A 35 0 (x2.toNatClampNeg))), (3, .int 1), (0, .ref (ad 20 0)), (1, .int x1), (2, .int x2)]) hx hb d7_begin_233 hl (by decide) rfl (fun ls hl => ?_)
                      refine lv_iload hx hb d7_begin_235 (lv_at hl 1 rfl) ?_
                      refine lv_if_ne (tgt := 285) hx hb d7_begin_237 (by decide) (fun _ => ?_) (fun c => absurd c (by decide))
                      refine lv_iload hx hb d7_begin_285 (lv_at hl 1 rfl) ?_
                      refine lv_if_ge (tgt := 293) hx hb d7_begin_287 (by decide) (fun c => absurd c (by decide)) (fun _ => ?_)
                      refine lv_iload hx hb d7_begin_290 (lv_at hl 1 rfl) ?_
                      exact se_i C0 hB (by rw [if_neg c_1, if_neg c_3, if_neg c_4, if_pos c_7, if_neg c_9, if_pos c_94, if_pos c_95, if_neg c_96, if_neg c_97, if_neg c_98] at hO; exact hO) d7_begin_292
                  · refine lv_bipush (v := (-3)) hx hb d7_begin_148 (by decide) ?_
                    refine lv_goto (tgt := 166) hx hb d7_begin_150 (by decide) ?_
                    refine lv_istore (lv' := [(6, .int (-3)), (5, .int 0), (4, .int (A 35 0 (x2.toNatClampNeg))), (3, .int 1), (0, .ref (ad 20 0)), (1, .int x1), (2, .int x2)]) hx hb d7_begin_166 hl (by decide) rfl (fun ls hl => ?_)
                    refine lv_iload hx hb d7_begin_168 (lv_at hl 0 rfl) ?_
                    refine lv_if_ne (tgt := 198) hx hb d7_begin_170 (by decide) (fun _ => ?_) (fun c => absurd c (by decide))
                    refine lv_iload hx hb d7_begin_198 (lv_at hl 0 rfl) ?_
                    refine lv_if_ne (tgt := 219) hx hb d7_begin_200 (by decide) (fun _ => ?_) (fun c => absurd c (by decide))
                    refine lv_iload_n hx hb d7_begin_219 rfl (lv_at hl 5 rfl) ?_
                    refine lv_if_ne (tgt := 232) hx hb d7_begin_220 (by decide) (fun _ => ?_) (fun c => absurd c c_3)
                    refine lv_iload_n hx hb d7_begin_232 rfl (lv_at hl 6 rfl) ?_
                    refine lv_istore (lv' := [(7, .int x2), (6, .int (-3)), (5, .int 0), (4, .int (A 35 0 (x2.toNatClampNeg))), (3, .int 1), (0, .ref (ad 20 0)), (1, .int x1), (2, .int x2)]) hx hb d7_begin_233 hl (by decide) rfl (fun ls hl => ?_)
                    refine lv_iload hx hb d7_begin_235 (lv_at hl 1 rfl) ?_
                    refine lv_if_ne (tgt := 285) hx hb d7_begin_237 (by decide) (fun _ => ?_) (fun c => absurd c (by decide))
                    refine lv_iload hx hb d7_begin_285 (lv_at hl 1 rfl) ?_
                    refine lv_if_ge (tgt := 293) hx hb d7_begin_287 (by decide) (fun c => absurd c (by decide)) (fun _ => ?_)
                    refine lv_iload hx hb d7_begin_290 (lv_at hl 1 rfl) ?_
                    exact se_i C0 hB (by rw [if_neg c_1, if_neg c_3, if_neg c_4, if_pos c_7, if_neg c_9, if_pos c_94, if_pos c_95, if_neg c_96, if_pos c_97] at hO; exact hO) d7_begin_292
                · refine lv_aload_n hx hb d7_begin_122 rfl (lv_at hl 3 rfl) ?_
                  refine sr_get (v := .ref (ad 23 0)) hx hb hw hown hK hB 2 (hX 20 (by decide)) cf_20 us7 (by decide) fl_7_13 (rfl) d7_begin_123 ?_
                  refine lv_aload_n hx hb d7_begin_126 rfl (lv_at hl 3 rfl) ?_
                  refine sr_get (v := .int (S 20 0 6)) hx hb hw hown hK hB 6 (hX 20 (by decide)) cf_20 us7 (by decide) fl_7_26 (rfl) d7_begin_127 ?_
                  refine sr_iald (v := A 23 0 ((S 20 0 6).toNatClampNeg)) hx hb hK hB (hX 23 (by decide)) rfl rfl (by (refine vp_in_iff.mpr ?_); (show 0 ≤ (S 20 0 6).toInt ∧ (S 20 0 6).toInt < ((16 : Nat) : Int)); (have a1 := sub1_i (x := S 20 0 20) (by omega)); (have kc_4 := hasBin_t c_4); (have kc_95 := le_i c_95); (have l0 : (0 : Int32).toInt = 0 := rfl); (have l20 : (20 : Int32).toInt = 20 := rfl); (have l6 : (6 : Int32).toInt = 6 := rfl);  omega) d7_begin_130 (rfl) ?_
                  refine lv_iconst (v := 1) hx hb d7_begin_131 (by decide) ?_
                  refine lv_icmp_ne (tgt := 148) hx hb d7_begin_132 (by decide) (fun c_143 => ?_) (fun c_143 => ?_)
                  · refine lv_bipush (v := (-3)) hx hb d7_begin_148 (by decide) ?_
                    refine lv_goto (tgt := 166) hx hb d7_begin_150 (by decide) ?_
                    refine lv_istore (lv' := [(6, .int (-3)), (5, .int 0), (4, .int (A 35 0 (x2.toNatClampNeg))), (3, .int 1), (0, .ref (ad 20 0)), (1, .int x1), (2, .int x2)]) hx hb d7_begin_166 hl (by decide) rfl (fun ls hl => ?_)
                    refine lv_iload hx hb d7_begin_168 (lv_at hl 0 rfl) ?_
                    refine lv_if_ne (tgt := 198) hx hb d7_begin_170 (by decide) (fun _ => ?_) (fun c => absurd c (by decide))
                    refine lv_iload hx hb d7_begin_198 (lv_at hl 0 rfl) ?_
                    refine lv_if_ne (tgt := 219) hx hb d7_begin_200 (by decide) (fun _ => ?_) (fun c => absurd c (by decide))
                    refine lv_iload_n hx hb d7_begin_219 rfl (lv_at hl 5 rfl) ?_
                    refine lv_if_ne (tgt := 232) hx hb d7_begin_220 (by decide) (fun _ => ?_) (fun c => absurd c c_3)
                    refine lv_iload_n hx hb d7_begin_232 rfl (lv_at hl 6 rfl) ?_
                    refine lv_istore (lv' := [(7, .int x2), (6, .int (-3)), (5, .int 0), (4, .int (A 35 0 (x2.toNatClampNeg))), (3, .int 1), (0, .ref (ad 20 0)), (1, .int x1), (2, .int x2)]) hx hb d7_begin_233 hl (by decide) rfl (fun ls hl => ?_)
                    refine lv_iload hx hb d7_begin_235 (lv_at hl 1 rfl) ?_
                    refine lv_if_ne (tgt := 285) hx hb d7_begin_237 (by decide) (fun _ => ?_) (fun c => absurd c (by decide))
                    refine lv_iload hx hb d7_begin_285 (lv_at hl 1 rfl) ?_
                    refine lv_if_ge (tgt := 293) hx hb d7_begin_287 (by decide) (fun c => absurd c (by decide)) (fun _ => ?_)
                    refine lv_iload hx hb d7_begin_290 (lv_at hl 1 rfl) ?_
                    exact se_i C0 hB (by rw [if_neg c_1, if_neg c_3, if_neg c_4, if_pos c_7, if_neg c_9, if_pos c_94, if_pos c_95, if_pos c_96, if_neg c_143] at hO; exact hO) d7_begin_292
                  · refine lv_aload_n hx hb d7_begin_135 rfl (lv_at hl 3 rfl) ?_
                    refine sr_get (v := .ref (ad 23 0)) hx hb hw hown hK hB 2 (hX 20 (by decide)) cf_20 us7 (by decide) fl_7_13 (rfl) d7_begin_136 ?_
                    refine lv_aload_n hx hb d7_begin_139 rfl (lv_at hl 3 rfl) ?_
                    refine sr_get (v := .int (S 20 0 6)) hx hb hw hown hK hB 6 (hX 20 (by decide)) cf_20 us7 (by decide) fl_7_26 (rfl) d7_begin_140 ?_
                    refine sr_iald (v := A 23 0 ((S 20 0 6).toNatClampNeg)) hx hb hK hB (hX 23 (by decide)) rfl rfl (by (refine vp_in_iff.mpr ?_); (show 0 ≤ (S 20 0 6).toInt ∧ (S 20 0 6).toInt < ((16 : Nat) : Int)); (have a1 := sub1_i (x := S 20 0 20) (by omega)); (have kc_4 := hasBin_t c_4); (have kc_95 := le_i c_95); (have l0 : (0 : Int32).toInt = 0 := rfl); (have l20 : (20 : Int32).toInt = 20 := rfl); (have l6 : (6 : Int32).toInt = 6 := rfl);  omega) d7_begin_143 (rfl) ?_
                    refine lv_iconst (v := 2) hx hb d7_begin_144 (by decide) ?_
                    refine lv_icmp_ne (tgt := 153) hx hb d7_begin_145 (by decide) (fun _ => ?_) (fun c => absurd c (by rw [c_143]; decide))
                    refine lv_aload_n hx hb d7_begin_153 rfl (lv_at hl 3 rfl) ?_
                    refine sr_get (v := .int (S 20 0 27)) hx hb hw hown hK hB 27 (hX 20 (by decide)) cf_20 us7 (by decide) fl_7_81 (rfl) d7_begin_154 ?_
                    refine lv_if_lt (tgt := 165) hx hb d7_begin_157 (by decide) (fun c_150 => ?_) (fun c_150 => ?_)
                    · refine lv_iconst (v := 0) hx hb d7_begin_165 (by decide) ?_
                      refine lv_istore (lv' := [(6, .int 0), (5, .int 0), (4, .int (A 35 0 (x2.toNatClampNeg))), (3, .int 1), (0, .ref (ad 20 0)), (1, .int x1), (2, .int x2)]) hx hb d7_begin_166 hl (by decide) rfl (fun ls hl => ?_)
                      refine lv_iload hx hb d7_begin_168 (lv_at hl 0 rfl) ?_
                      refine lv_if_ne (tgt := 198) hx hb d7_begin_170 (by decide) (fun c => absurd (by decide) c) (fun _ => ?_)
                      refine lv_iload_n hx hb d7_begin_173 rfl (lv_at hl 5 rfl) ?_
                      refine lv_iconst (v := 3) hx hb d7_begin_174 (by decide) ?_
                      refine lv_icmp_eq (tgt := 187) hx hb d7_begin_175 (by decide) (fun c => absurd c (by rw [c_96]; decide)) (fun _ => ?_)
                      refine lv_iload_n hx hb d7_begin_178 rfl (lv_at hl 5 rfl) ?_
                      refine lv_if_ne (tgt := 198) hx hb d7_begin_179 (by decide) (fun _ => ?_) (fun c => absurd c c_3)
                      refine lv_iload hx hb d7_begin_198 (lv_at hl 0 rfl) ?_
                      refine lv_if_ne (tgt := 219) hx hb d7_begin_200 (by decide) (fun c => absurd (by decide) c) (fun _ => ?_)
                      refine lv_iload_n hx hb d7_begin_203 rfl (lv_at hl 5 rfl) ?_
                      refine lv_if_ne (tgt := 219) hx hb d7_begin_204 (by decide) (fun _ => ?_) (fun c => absurd c c_3)
                      refine lv_iload_n hx hb d7_begin_219 rfl (lv_at hl 5 rfl) ?_
                      refine lv_if_ne (tgt := 232) hx hb d7_begin_220 (by decide) (fun _ => ?_) (fun c => absurd c c_3)
                      refine lv_iload_n hx hb d7_begin_232 rfl (lv_at hl 6 rfl) ?_
                      refine lv_istore (lv' := [(7, .int x2), (6, .int 0), (5, .int 0), (4, .int (A 35 0 (x2.toNatClampNeg))), (3, .int 1), (0, .ref (ad 20 0)), (1, .int x1), (2, .int x2)]) hx hb d7_begin_233 hl (by decide) rfl (fun ls hl => ?_)
                      refine lv_iload hx hb d7_begin_235 (lv_at hl 1 rfl) ?_
                      refine lv_if_ne (tgt := 285) hx hb d7_begin_237 (by decide) (fun c => absurd (by decide) c) (fun _ => ?_)
                      refine lv_iload hx hb d7_begin_240 (lv_at hl 0 rfl) ?_
                      refine lv_if_ge (tgt := 250) hx hb d7_begin_242 (by decide) (fun c_158 => ?_) (fun c_158 => ?_)
                      · refine lv_aload_n hx hb d7_begin_250 rfl (lv_at hl 5 rfl) ?_
                        refine sr_get (v := .int (S 20 0 34)) hx hb hw hown hK hB 34 (hX 20 (by decide)) cf_20 us7 (by decide) fl_7_130 (rfl) d7_begin_251 ?_
                        refine lv_sipush (v := 290) hx hb d7_begin_254 (by decide) ?_
                        refine lv_icmp_ge (tgt := 277) hx hb d7_begin_257 (by decide) (fun c_159 => ?_) (fun c_159 => ?_)
                        · refine lv_bipush (v := (-8)) hx hb d7_begin_277 (by decide) ?_
                          refine lv_goto (tgt := 283) hx hb d7_begin_279 (by decide) ?_
                          refine lv_istore (lv' := [(6, .int (-8)), (7, .int x2), (5, .int 0), (4, .int (A 35 0 (x2.toNatClampNeg))), (3, .int 1), (0, .ref (ad 20 0)), (1, .int x1), (2, .int x2)]) hx hb d7_begin_283 hl (by decide) rfl (fun ls hl => ?_)
                          refine lv_iload hx hb d7_begin_285 (lv_at hl 0 rfl) ?_
                          refine lv_if_ge (tgt := 293) hx hb d7_begin_287 (by decide) (fun c => absurd c (by decide)) (fun _ => ?_)
                          refine lv_iload hx hb d7_begin_290 (lv_at hl 0 rfl) ?_
                          exact se_i C0 hB (by rw [if_neg c_1, if_neg c_3, if_neg c_4, if_pos c_7, if_neg c_9, if_pos c_94, if_pos c_95, if_pos c_96, if_pos c_143, if_pos c_150, if_pos c_158, if_pos c_159] at hO; exact hO) d7_begin_292
                        · refine lv_iload_n hx hb d7_begin_260 rfl (lv_at hl 6 rfl) ?_
                          refine lv_iconst (v := 1) hx hb d7_begin_261 (by decide) ?_
                          refine lv_icmp_ne (tgt := 282) hx hb d7_begin_262 (by decide) (fun c => absurd c_96 c) (fun _ => ?_)
                          refine lv_aload_n hx hb d7_begin_265 rfl (lv_at hl 5 rfl) ?_
                          refine sr_get (v := .ref (ad 36 0)) hx hb hw hown hK hB 15 (hX 20 (by decide)) cf_20 us7 (by decide) fl_7_48 (rfl) d7_begin_266 ?_
                          refine lv_iload hx hb d7_begin_269 (lv_at hl 0 rfl) ?_
                          refine sr_iald (v := A 36 0 (x2.toNatClampNeg)) hx hb hK hB (hX 36 (by decide)) rfl rfl (by (refine vp_in_iff.mpr ?_); (show 0 ≤ x2.toInt ∧ x2.toInt < ((64 : Nat) : Int)); (have a1 := sub1_i (x := S 20 0 20) (by omega)); (have kc_4 := hasBin_t c_4); (have kc_158 := le_i c_158); (have l0 : (0 : Int32).toInt = 0 := rfl);  omega) d7_begin_271 (rfl) ?_
                          refine lv_bipush (v := 6) hx hb d7_begin_272 (by decide) ?_
                          refine lv_icmp_ne (tgt := 282) hx hb d7_begin_274 (by decide) (fun c_162 => ?_) (fun c_162 => ?_)
                          · refine lv_iconst (v := 0) hx hb d7_begin_282 (by decide) ?_
                            refine lv_istore (lv' := [(6, .int 0), (7, .int x2), (5, .int 0), (4, .int (A 35 0 (x2.toNatClampNeg))), (3, .int 1), (0, .ref (ad 20 0)), (1, .int x1), (2, .int x2)]) hx hb d7_begin_283 hl (by decide) rfl (fun ls hl => ?_)
                            refine lv_iload hx hb d7_begin_285 (lv_at hl 0 rfl) ?_
                            refine lv_if_ge (tgt := 293) hx hb d7_begin_287 (by decide) (fun _ => ?_) (fun c => absurd (by decide) c)
                            refine lv_aload_n hx hb d7_begin_293 rfl (lv_at hl 5 rfl) ?_
                            refine lv_iload_n hx hb d7_begin_294 rfl (lv_at hl 6 rfl) ?_
                            refine sr_put hx hb hw hown hK hB 27 (hX 20 (by decide)) cf_20 us7 tk7 nm7 (by decide) fl_7_81 rfl rfl rfl rfl d7_begin_295 (fun H locs hB => ?_)
                            refine lv_aload_n hx hb d7_begin_298 rfl (lv_at hl 5 rfl) ?_
                            refine lv_iload hx hb d7_begin_299 (lv_at hl 1 rfl) ?_
                            refine sr_put hx hb hw hown hK hB 28 (hX 20 (by decide)) cf_20 us7 tk7 nm7 (by decide) fl_7_153 rfl rfl rfl rfl d7_begin_301 (fun H locs hB => ?_)
                            refine lv_aload_n hx hb d7_begin_304 rfl (lv_at hl 5 rfl) ?_
                            refine lv_iload_n hx hb d7_begin_305 rfl (lv_at hl 6 rfl) ?_
                            refine lv_if_ne (tgt := 313) hx hb d7_begin_306 (by decide) (fun _ => ?_) (fun c => absurd c c_3)
                            refine lv_iconst (v := (-1)) hx hb d7_begin_313 (by decide) ?_
                            refine sr_put hx hb hw hown hK hB 29 (hX 20 (by decide)) cf_20 us7 tk7 nm7 (by decide) fl_7_124 rfl rfl rfl rfl d7_begin_314 (fun H locs hB => ?_)
                            refine lv_aload_n hx hb d7_begin_317 rfl (lv_at hl 5 rfl) ?_
                            refine lv_aload_n hx hb d7_begin_318 rfl (lv_at hl 5 rfl) ?_
                            refine sr_get (v := .int (S 20 0 0)) hx hb hw hown hK hB 0 (hX 20 (by decide)) cf_20 us7 (by decide) fl_7_100 (rfl) d7_begin_319 ?_
                            refine sr_put hx hb hw hown hK hB 30 (hX 20 (by decide)) cf_20 us7 tk7 nm7 (by decide) fl_7_156 rfl rfl rfl rfl d7_begin_322 (fun H locs hB => ?_)
                            refine lv_aload_n hx hb d7_begin_325 rfl (lv_at hl 5 rfl) ?_
                            refine lv_iload_n hx hb d7_begin_326 rfl (lv_at hl 6 rfl) ?_
                            refine lv_iconst (v := 2) hx hb d7_begin_327 (by decide) ?_
                            refine lv_icmp_eq (tgt := 336) hx hb d7_begin_328 (by decide) (fun c => absurd c (by rw [c_96]; decide)) (fun _ => ?_)
                            refine lv_iload hx hb d7_begin_331 (lv_at hl 2 rfl) ?_
                            refine lv_if_eq (tgt := 340) hx hb d7_begin_333 (by decide) (fun _ => ?_) (fun c => absurd (by decide) c)
                            refine lv_iconst (v := 0) hx hb d7_begin_340 (by decide) ?_
                            refine sr_put hx hb hw hown hK hB 31 (hX 20 (by decide)) cf_20 us7 tk7 nm7 (by decide) fl_7_159 rfl rfl rfl rfl d7_begin_341 (fun H locs hB => ?_)
                            refine lv_aload_n hx hb d7_begin_344 rfl (lv_at hl 5 rfl) ?_
                            refine lv_iconst (v := 0) hx hb d7_begin_345 (by decide) ?_
                            refine sr_put hx hb hw hown hK hB 32 (hX 20 (by decide)) cf_20 us7 tk7 nm7 (by decide) fl_7_163 rfl rfl rfl rfl d7_begin_346 (fun H locs hB => ?_)
                            refine lv_aload_n hx hb d7_begin_349 rfl (lv_at hl 5 rfl) ?_
                            refine lv_iconst (v := 0) hx hb d7_begin_350 (by decide) ?_
                            refine sr_put hx hb hw hown hK hB 33 (hX 20 (by decide)) cf_20 us7 tk7 nm7 (by decide) fl_7_166 rfl rfl rfl rfl d7_begin_351 (fun H locs hB => ?_)
                            refine lv_aload_n hx hb d7_begin_354 rfl (lv_at hl 5 rfl) ?_
                            refine lv_aload_n hx hb d7_begin_355 rfl (lv_at hl 5 rfl) ?_
                            refine sr_get (v := .int (S 20 0 0)) hx hb hw hown hK hB 0 (hX 20 (by decide)) cf_20 us7 (by decide) fl_7_100 (rfl) d7_begin_356 ?_
                            refine sr_put hx hb hw hown hK hB 7 (hX 20 (by decide)) cf_20 us7 tk7 nm7 (by decide) fl_7_114 rfl rfl rfl rfl d7_begin_359 (fun H locs hB => ?_)
                            refine lv_iload hx hb d7_begin_362 (lv_at hl 1 rfl) ?_
                            exact se_i C0 hB (by rw [if_neg c_1, if_neg c_3, if_neg c_4, if_pos c_7, if_neg c_9, if_pos c_94, if_pos c_95, if_pos c_96, if_pos c_143, if_pos c_150, if_pos c_158, if_neg c_159, if_neg c_162] at hO; exact hO) d7_begin_364
                          · refine lv_bipush (v := (-8)) hx hb d7_begin_277 (by decide) ?_
                            refine lv_goto (tgt := 283) hx hb d7_begin_279 (by decide) ?_
                            refine lv_istore (lv' := [(6, .int (-8)), (7, .int x2), (5, .int 0), (4, .int (A 35 0 (x2.toNatClampNeg))), (3, .int 1), (0, .ref (ad 20 0)), (1, .int x1), (2, .int x2)]) hx hb d7_begin_283 hl (by decide) rfl (fun ls hl => ?_)
                            refine lv_iload hx hb d7_begin_285 (lv_at hl 0 rfl) ?_
                            refine lv_if_ge (tgt := 293) hx hb d7_begin_287 (by decide) (fun c => absurd c (by decide)) (fun _ => ?_)
                            refine lv_iload hx hb d7_begin_290 (lv_at hl 0 rfl) ?_
                            exact se_i C0 hB (by rw [if_neg c_1, if_neg c_3, if_neg c_4, if_pos c_7, if_neg c_9, if_pos c_94, if_pos c_95, if_pos c_96, if_pos c_143, if_pos c_150, if_pos c_158, if_neg c_159, if_pos c_162] at hO; exact hO) d7_begin_292
                      · refine lv_bipush (v := (-7)) hx hb d7_begin_245 (by decide) ?_
                        refine lv_goto (tgt := 283) hx hb d7_begin_247 (by decide) ?_
                        refine lv_istore (lv' := [(6, .int (-7)), (7, .int x2), (5, .int 0), (4, .int (A 35 0 (x2.toNatClampNeg))), (3, .int 1), (0, .ref (ad 20 0)), (1, .int x1), (2, .int x2)]) hx hb d7_begin_283 hl (by decide) rfl (fun ls hl => ?_)
                        refine lv_iload hx hb d7_begin_285 (lv_at hl 0 rfl) ?_
                        refine lv_if_ge (tgt := 293) hx hb d7_begin_287 (by decide) (fun c => absurd c (by decide)) (fun _ => ?_)
                        refine lv_iload hx hb d7_begin_290 (lv_at hl 0 rfl) ?_
                        exact se_i C0 hB (by rw [if_neg c_1, if_neg c_3, if_neg c_4, if_pos c_7, if_neg c_9, if_pos c_94, if_pos c_95, if_pos c_96, if_pos c_143, if_pos c_150, if_neg c_158] at hO; exact hO) d7_begin_292
                    · refine lv_bipush (v := (-4)) hx hb d7_begin_160 (by decide) ?_
                      refine lv_goto (tgt := 166) hx hb d7_begin_162 (by decide) ?_
                      refine lv_istore (lv' := [(6, .int (-4)), (5, .int 0), (4, .int (A 35 0 (x2.toNatClampNeg))), (3, .int 1), (0, .ref (ad 20 0)), (1, .int x1), (2, .int x2)]) hx hb d7_begin_166 hl (by decide) rfl (fun ls hl => ?_)
                      refine lv_iload hx hb d7_begin_168 (lv_at hl 0 rfl) ?_
                      refine lv_if_ne (tgt := 198) hx hb d7_begin_170 (by decide) (fun _ => ?_) (fun c => absurd c (by decide))
                      refine lv_iload hx hb d7_begin_198 (lv_at hl 0 rfl) ?_
                      refine lv_if_ne (tgt := 219) hx hb d7_begin_200 (by decide) (fun _ => ?_) (fun c => absurd c (by decide))
                      refine lv_iload_n hx hb d7_begin_219 rfl (lv_at hl 5 rfl) ?_
                      refine lv_if_ne (tgt := 232) hx hb d7_begin_220 (by decide) (fun _ => ?_) (fun c => absurd c c_3)
                      refine lv_iload_n hx hb d7_begin_232 rfl (lv_at hl 6 rfl) ?_
                      refine lv_istore (lv' := [(7, .int x2), (6, .int (-4)), (5, .int 0), (4, .int (A 35 0 (x2.toNatClampNeg))), (3, .int 1), (0, .ref (ad 20 0)), (1, .int x1), (2, .int x2)]) hx hb d7_begin_233 hl (by decide) rfl (fun ls hl => ?_)
                      refine lv_iload hx hb d7_begin_235 (lv_at hl 1 rfl) ?_
                      refine lv_if_ne (tgt := 285) hx hb d7_begin_237 (by decide) (fun _ => ?_) (fun c => absurd c (by decide))
                      refine lv_iload hx hb d7_begin_285 (lv_at hl 1 rfl) ?_
                      refine lv_if_ge (tgt := 293) hx hb d7_begin_287 (by decide) (fun c => absurd c (by decide)) (fun _ => ?_)
                      refine lv_iload hx hb d7_begin_290 (lv_at hl 1 rfl) ?_
                      exact se_i C0 hB (by rw [if_neg c_1, if_neg c_3, if_neg c_4, if_pos c_7, if_neg c_9, if_pos c_94, if_pos c_95, if_pos c_96, if_pos c_143, if_neg c_150] at hO; exact hO) d7_begin_292
              · refine lv_bipush (v := (-2)) hx hb d7_begin_112 (by decide) ?_
                refine lv_goto (tgt := 166) hx hb d7_begin_114 (by decide) ?_
                refine lv_istore (lv' := [(6, .int (-2)), (5, .int 0), (4, .int (A 35 0 (x2.toNatClampNeg))), (3, .int 1), (0, .ref (ad 20 0)), (1, .int x1), (2, .int x2)]) hx hb d7_begin_166 hl (by decide) rfl (fun ls hl => ?_)
                refine lv_iload hx hb d7_begin_168 (lv_at hl 0 rfl) ?_
                refine lv_if_ne (tgt := 198) hx hb d7_begin_170 (by decide) (fun _ => ?_) (fun c => absurd c (by decide))
                refine lv_iload hx hb d7_begin_198 (lv_at hl 0 rfl) ?_
                refine lv_if_ne (tgt := 219) hx hb d7_begin_200 (by decide) (fun _ => ?_) (fun c => absurd c (by decide))
                refine lv_iload_n hx hb d7_begin_219 rfl (lv_at hl 5 rfl) ?_
                refine lv_if_ne (tgt := 232) hx hb d7_begin_220 (by decide) (fun _ => ?_) (fun c => absurd c c_3)
                refine lv_iload_n hx hb d7_begin_232 rfl (lv_at hl 6 rfl) ?_
                refine lv_istore (lv' := [(7, .int x2), (6, .int (-2)), (5, .int 0), (4, .int (A 35 0 (x2.toNatClampNeg))), (3, .int 1), (0, .ref (ad 20 0)), (1, .int x1), (2, .int x2)]) hx hb d7_begin_233 hl (by decide) rfl (fun ls hl => ?_)
                refine lv_iload hx hb d7_begin_235 (lv_at hl 1 rfl) ?_
                refine lv_if_ne (tgt := 285) hx hb d7_begin_237 (by decide) (fun _ => ?_) (fun c => absurd c (by decide))
                refine lv_iload hx hb d7_begin_285 (lv_at hl 1 rfl) ?_
                refine lv_if_ge (tgt := 293) hx hb d7_begin_287 (by decide) (fun c => absurd c (by decide)) (fun _ => ?_)
                refine lv_iload hx hb d7_begin_290 (lv_at hl 1 rfl) ?_
                exact se_i C0 hB (by rw [if_neg c_1, if_neg c_3, if_neg c_4, if_pos c_7, if_neg c_9, if_pos c_94, if_neg c_95] at hO; exact hO) d7_begin_292
            · refine lv_iload_n hx hb d7_begin_93 rfl (lv_at hl 3 rfl) ?_
              refine lv_iconst (v := 1) hx hb d7_begin_94 (by decide) ?_
              refine lv_icmp_eq (tgt := 102) hx hb d7_begin_95 (by decide) (fun c_179 => ?_) (fun c_179 => ?_)
              · refine lv_iconst (v := 0) hx hb d7_begin_102 (by decide) ?_
                refine lv_istore (lv' := [(5, .int 0), (4, .int (A 35 0 (x2.toNatClampNeg))), (3, .int 1), (0, .ref (ad 20 0)), (1, .int x1), (2, .int x2)]) hx hb d7_begin_103 hl (by decide) rfl (fun ls hl => ?_)
                refine lv_aload_n hx hb d7_begin_105 rfl (lv_at hl 3 rfl) ?_
                refine sr_get (v := .int (S 20 0 6)) hx hb hw hown hK hB 6 (hX 20 (by decide)) cf_20 us7 (by decide) fl_7_26 (rfl) d7_begin_106 ?_
                refine lv_if_ge (tgt := 117) hx hb d7_begin_109 (by decide) (fun c_180 => ?_) (fun c_180 => ?_)
                · refine lv_iload_n hx hb d7_begin_117 rfl (lv_at hl 4 rfl) ?_
                  refine lv_iconst (v := 1) hx hb d7_begin_118 (by decide) ?_
                  refine lv_icmp_ne (tgt := 135) hx hb d7_begin_119 (by decide) (fun c => absurd c_179 c) (fun _ => ?_)
                  refine lv_aload_n hx hb d7_begin_122 rfl (lv_at hl 3 rfl) ?_
                  refine sr_get (v := .ref (ad 23 0)) hx hb hw hown hK hB 2 (hX 20 (by decide)) cf_20 us7 (by decide) fl_7_13 (rfl) d7_begin_123 ?_
                  refine lv_aload_n hx hb d7_begin_126 rfl (lv_at hl 3 rfl) ?_
                  refine sr_get (v := .int (S 20 0 6)) hx hb hw hown hK hB 6 (hX 20 (by decide)) cf_20 us7 (by decide) fl_7_26 (rfl) d7_begin_127 ?_
                  refine sr_iald (v := A 23 0 ((S 20 0 6).toNatClampNeg)) hx hb hK hB (hX 23 (by decide)) rfl rfl (by (refine vp_in_iff.mpr ?_); (show 0 ≤ (S 20 0 6).toInt ∧ (S 20 0 6).toInt < ((16 : Nat) : Int)); (have a1 := sub1_i (x := S 20 0 20) (by omega)); (have kc_4 := hasBin_t c_4); (have kc_180 := le_i c_180); (have l0 : (0 : Int32).toInt = 0 := rfl); (have l20 : (20 : Int32).toInt = 20 := rfl); (have l6 : (6 : Int32).toInt = 6 := rfl);  omega) d7_begin_130 (rfl) ?_
                  refine lv_iconst (v := 1) hx hb d7_begin_131 (by decide) ?_
                  refine lv_icmp_ne (tgt := 148) hx hb d7_begin_132 (by decide) (fun c_182 => ?_) (fun c_182 => ?_)
                  · refine lv_bipush (v := (-3)) hx hb d7_begin_148 (by decide) ?_
                    refine lv_goto (tgt := 166) hx hb d7_begin_150 (by decide) ?_
                    refine lv_istore (lv' := [(6, .int (-3)), (5, .int 0), (4, .int (A 35 0 (x2.toNatClampNeg))), (3, .int 1), (0, .ref (ad 20 0)), (1, .int x1), (2, .int x2)]) hx hb d7_begin_166 hl (by decide) rfl (fun ls hl => ?_)
                    refine lv_iload hx hb d7_begin_168 (lv_at hl 0 rfl) ?_
                    refine lv_if_ne (tgt := 198) hx hb d7_begin_170 (by decide) (fun _ => ?_) (fun c => absurd c (by decide))
                    refine lv_iload hx hb d7_begin_198 (lv_at hl 0 rfl) ?_
                    refine lv_if_ne (tgt := 219) hx hb d7_begin_200 (by decide) (fun _ => ?_) (fun c => absurd c (by decide))
                    refine lv_iload_n hx hb d7_begin_219 rfl (lv_at hl 5 rfl) ?_
                    refine lv_if_ne (tgt := 232) hx hb d7_begin_220 (by decide) (fun _ => ?_) (fun c => absurd c c_3)
                    refine lv_iload_n hx hb d7_begin_232 rfl (lv_at hl 6 rfl) ?_
                    refine lv_istore (lv' := [(7, .int x2), (6, .int (-3)), (5, .int 0), (4, .int (A 35 0 (x2.toNatClampNeg))), (3, .int 1), (0, .ref (ad 20 0)), (1, .int x1), (2, .int x2)]) hx hb d7_begin_233 hl (by decide) rfl (fun ls hl => ?_)
                    refine lv_iload hx hb d7_begin_235 (lv_at hl 1 rfl) ?_
                    refine lv_if_ne (tgt := 285) hx hb d7_begin_237 (by decide) (fun _ => ?_) (fun c => absurd c (by decide))
                    refine lv_iload hx hb d7_begin_285 (lv_at hl 1 rfl) ?_
                    refine lv_if_ge (tgt := 293) hx hb d7_begin_287 (by decide) (fun c => absurd c (by decide)) (fun _ => ?_)
                    refine lv_iload hx hb d7_begin_290 (lv_at hl 1 rfl) ?_
                    exact se_i C0 hB (by rw [if_neg c_1, if_neg c_3, if_neg c_4, if_pos c_7, if_neg c_9, if_neg c_94, if_pos c_179, if_pos c_180, if_neg c_182] at hO; exact hO) d7_begin_292
                  · refine lv_aload_n hx hb d7_begin_135 rfl (lv_at hl 3 rfl) ?_
                    refine sr_get (v := .ref (ad 23 0)) hx hb hw hown hK hB 2 (hX 20 (by decide)) cf_20 us7 (by decide) fl_7_13 (rfl) d7_begin_136 ?_
                    refine lv_aload_n hx hb d7_begin_139 rfl (lv_at hl 3 rfl) ?_
                    refine sr_get (v := .int (S 20 0 6)) hx hb hw hown hK hB 6 (hX 20 (by decide)) cf_20 us7 (by decide) fl_7_26 (rfl) d7_begin_140 ?_
                    refine sr_iald (v := A 23 0 ((S 20 0 6).toNatClampNeg)) hx hb hK hB (hX 23 (by decide)) rfl rfl (by (refine vp_in_iff.mpr ?_); (show 0 ≤ (S 20 0 6).toInt ∧ (S 20 0 6).toInt < ((16 : Nat) : Int)); (have a1 := sub1_i (x := S 20 0 20) (by omega)); (have kc_4 := hasBin_t c_4); (have kc_180 := le_i c_180); (have l0 : (0 : Int32).toInt = 0 := rfl); (have l20 : (20 : Int32).toInt = 20 := rfl); (have l6 : (6 : Int32).toInt = 6 := rfl);  omega) d7_begin_143 (rfl) ?_
                    refine lv_iconst (v := 2) hx hb d7_begin_144 (by decide) ?_
                    refine lv_icmp_ne (tgt := 153) hx hb d7_begin_145 (by decide) (fun _ => ?_) (fun c => absurd c (by rw [c_182]; decide))
                    refine lv_aload_n hx hb d7_begin_153 rfl (lv_at hl 3 rfl) ?_
                    refine sr_get (v := .int (S 20 0 27)) hx hb hw hown hK hB 27 (hX 20 (by decide)) cf_20 us7 (by decide) fl_7_81 (rfl) d7_begin_154 ?_
                    refine lv_if_lt (tgt := 165) hx hb d7_begin_157 (by decide) (fun c_189 => ?_) (fun c_189 => ?_)
                    · refine lv_iconst (v := 0) hx hb d7_begin_165 (by decide) ?_
                      refine lv_istore (lv' := [(6, .int 0), (5, .int 0), (4, .int (A 35 0 (x2.toNatClampNeg))), (3, .int 1), (0, .ref (ad 20 0)), (1, .int x1), (2, .int x2)]) hx hb d7_begin_166 hl (by decide) rfl (fun ls hl => ?_)
                      refine lv_iload hx hb d7_begin_168 (lv_at hl 0 rfl) ?_
                      refine lv_if_ne (tgt := 198) hx hb d7_begin_170 (by decide) (fun c => absurd (by decide) c) (fun _ => ?_)
                      refine lv_iload_n hx hb d7_begin_173 rfl (lv_at hl 5 rfl) ?_
                      refine lv_iconst (v := 3) hx hb d7_begin_174 (by decide) ?_
                      refine lv_icmp_eq (tgt := 187) hx hb d7_begin_175 (by decide) (fun c => absurd c (by rw [c_179]; decide)) (fun _ => ?_)
                      refine lv_iload_n hx hb d7_begin_178 rfl (lv_at hl 5 rfl) ?_
                      refine lv_if_ne (tgt := 198) hx hb d7_begin_179 (by decide) (fun _ => ?_) (fun c => absurd c c_3)
                      refine lv_iload hx hb d7_begin_198 (lv_at hl 0 rfl) ?_
                      refine lv_if_ne (tgt := 219) hx hb d7_begin_200 (by decide) (fun c => absurd (by decide) c) (fun _ => ?_)
                      refine lv_iload_n hx hb d7_begin_203 rfl (lv_at hl 5 rfl) ?_
                      refine lv_if_ne (tgt := 219) hx hb d7_begin_204 (by decide) (fun _ => ?_) (fun c => absurd c c_3)
                      refine lv_iload_n hx hb d7_begin_219 rfl (lv_at hl 5 rfl) ?_
                      refine lv_if_ne (tgt := 232) hx hb d7_begin_220 (by decide) (fun _ => ?_) (fun c => absurd c c_3)
                      refine lv_iload_n hx hb d7_begin_232 rfl (lv_at hl 6 rfl) ?_
                      refine lv_istore (lv' := [(7, .int x2), (6, .int 0), (5, .int 0), (4, .int (A 35 0 (x2.toNatClampNeg))), (3, .int 1), (0, .ref (ad 20 0)), (1, .int x1), (2, .int x2)]) hx hb d7_begin_233 hl (by decide) rfl (fun ls hl => ?_)
                      refine lv_iload hx hb d7_begin_235 (lv_at hl 1 rfl) ?_
                      refine lv_if_ne (tgt := 285) hx hb d7_begin_237 (by decide) (fun c => absurd (by decide) c) (fun _ => ?_)
                      refine lv_iload hx hb d7_begin_240 (lv_at hl 0 rfl) ?_
                      refine lv_if_ge (tgt := 250) hx hb d7_begin_242 (by decide) (fun c_197 => ?_) (fun c_197 => ?_)
                      · refine lv_aload_n hx hb d7_begin_250 rfl (lv_at hl 5 rfl) ?_
                        refine sr_get (v := .int (S 20 0 34)) hx hb hw hown hK hB 34 (hX 20 (by decide)) cf_20 us7 (by decide) fl_7_130 (rfl) d7_begin_251 ?_
                        refine lv_sipush (v := 290) hx hb d7_begin_254 (by decide) ?_
                        refine lv_icmp_ge (tgt := 277) hx hb d7_begin_257 (by decide) (fun c_198 => ?_) (fun c_198 => ?_)
                        · refine lv_bipush (v := (-8)) hx hb d7_begin_277 (by decide) ?_
                          refine lv_goto (tgt := 283) hx hb d7_begin_279 (by decide) ?_
                          refine lv_istore (lv' := [(6, .int (-8)), (7, .int x2), (5, .int 0), (4, .int (A 35 0 (x2.toNatClampNeg))), (3, .int 1), (0, .ref (ad 20 0)), (1, .int x1), (2, .int x2)]) hx hb d7_begin_283 hl (by decide) rfl (fun ls hl => ?_)
                          refine lv_iload hx hb d7_begin_285 (lv_at hl 0 rfl) ?_
                          refine lv_if_ge (tgt := 293) hx hb d7_begin_287 (by decide) (fun c => absurd c (by decide)) (fun _ => ?_)
                          refine lv_iload hx hb d7_begin_290 (lv_at hl 0 rfl) ?_
                          exact se_i C0 hB (by rw [if_neg c_1, if_neg c_3, if_neg c_4, if_pos c_7, if_neg c_9, if_neg c_94, if_pos c_179, if_pos c_180, if_pos c_182, if_pos c_189, if_pos c_197, if_pos c_198] at hO; exact hO) d7_begin_292
                        · refine lv_iload_n hx hb d7_begin_260 rfl (lv_at hl 6 rfl) ?_
                          refine lv_iconst (v := 1) hx hb d7_begin_261 (by decide) ?_
                          refine lv_icmp_ne (tgt := 282) hx hb d7_begin_262 (by decide) (fun c => absurd c_179 c) (fun _ => ?_)
                          refine lv_aload_n hx hb d7_begin_265 rfl (lv_at hl 5 rfl) ?_
                          refine sr_get (v := .ref (ad 36 0)) hx hb hw hown hK hB 15 (hX 20 (by decide)) cf_20 us7 (by decide) fl_7_48 (rfl) d7_begin_266 ?_
                          refine lv_iload hx hb d7_begin_269 (lv_at hl 0 rfl) ?_
                          refine sr_iald (v := A 36 0 (x2.toNatClampNeg)) hx hb hK hB (hX 36 (by decide)) rfl rfl (by (refine vp_in_iff.mpr ?_); (show 0 ≤ x2.toInt ∧ x2.toInt < ((64 : Nat) : Int)); (have a1 := sub1_i (x := S 20 0 20) (by omega)); (have kc_4 := hasBin_t c_4); (have kc_197 := le_i c_197); (have l0 : (0 : Int32).toInt = 0 := rfl);  omega) d7_begin_271 (rfl) ?_
                          refine lv_bipush (v := 6) hx hb d7_begin_272 (by decide) ?_
                          refine lv_icmp_ne (tgt := 282) hx hb d7_begin_274 (by decide) (fun c_201 => ?_) (fun c_201 => ?_)
                          · refine lv_iconst (v := 0) hx hb d7_begin_282 (by decide) ?_
                            refine lv_istore (lv' := [(6, .int 0), (7, .int x2), (5, .int 0), (4, .int (A 35 0 (x2.toNatClampNeg))), (3, .int 1), (0, .ref (ad 20 0)), (1, .int x1), (2, .int x2)]) hx hb d7_begin_283 hl (by decide) rfl (fun ls hl => ?_)
                            refine lv_iload hx hb d7_begin_285 (lv_at hl 0 rfl) ?_
                            refine lv_if_ge (tgt := 293) hx hb d7_begin_287 (by decide) (fun _ => ?_) (fun c => absurd (by decide) c)
                            refine lv_aload_n hx hb d7_begin_293 rfl (lv_at hl 5 rfl) ?_
                            refine lv_iload_n hx hb d7_begin_294 rfl (lv_at hl 6 rfl) ?_
                            refine sr_put hx hb hw hown hK hB 27 (hX 20 (by decide)) cf_20 us7 tk7 nm7 (by decide) fl_7_81 rfl rfl rfl rfl d7_begin_295 (fun H locs hB => ?_)
                            refine lv_aload_n hx hb d7_begin_298 rfl (lv_at hl 5 rfl) ?_
                            refine lv_iload hx hb d7_begin_299 (lv_at hl 1 rfl) ?_
                            refine sr_put hx hb hw hown hK hB 28 (hX 20 (by decide)) cf_20 us7 tk7 nm7 (by decide) fl_7_153 rfl rfl rfl rfl d7_begin_301 (fun H locs hB => ?_)
                            refine lv_aload_n hx hb d7_begin_304 rfl (lv_at hl 5 rfl) ?_
                            refine lv_iload_n hx hb d7_begin_305 rfl (lv_at hl 6 rfl) ?_
                            refine lv_if_ne (tgt := 313) hx hb d7_begin_306 (by decide) (fun _ => ?_) (fun c => absurd c c_3)
                            refine lv_iconst (v := (-1)) hx hb d7_begin_313 (by decide) ?_
                            refine sr_put hx hb hw hown hK hB 29 (hX 20 (by decide)) cf_20 us7 tk7 nm7 (by decide) fl_7_124 rfl rfl rfl rfl d7_begin_314 (fun H locs hB => ?_)
                            refine lv_aload_n hx hb d7_begin_317 rfl (lv_at hl 5 rfl) ?_
                            refine lv_aload_n hx hb d7_begin_318 rfl (lv_at hl 5 rfl) ?_
                            refine sr_get (v := .int (S 20 0 0)) hx hb hw hown hK hB 0 (hX 20 (by decide)) cf_20 us7 (by decide) fl_7_100 (rfl) d7_begin_319 ?_
                            refine sr_put hx hb hw hown hK hB 30 (hX 20 (by decide)) cf_20 us7 tk7 nm7 (by decide) fl_7_156 rfl rfl rfl rfl d7_begin_322 (fun H locs hB => ?_)
                            refine lv_aload_n hx hb d7_begin_325 rfl (lv_at hl 5 rfl) ?_
                            refine lv_iload_n hx hb d7_begin_326 rfl (lv_at hl 6 rfl) ?_
                            refine lv_iconst (v := 2) hx hb d7_begin_327 (by decide) ?_
                            refine lv_icmp_eq (tgt := 336) hx hb d7_begin_328 (by decide) (fun c => absurd c (by rw [c_179]; decide)) (fun _ => ?_)
                            refine lv_iload hx hb d7_begin_331 (lv_at hl 2 rfl) ?_
                            refine lv_if_eq (tgt := 340) hx hb d7_begin_333 (by decide) (fun _ => ?_) (fun c => absurd (by decide) c)
                            refine lv_iconst (v := 0) hx hb d7_begin_340 (by decide) ?_
                            refine sr_put hx hb hw hown hK hB 31 (hX 20 (by decide)) cf_20 us7 tk7 nm7 (by decide) fl_7_159 rfl rfl rfl rfl d7_begin_341 (fun H locs hB => ?_)
                            refine lv_aload_n hx hb d7_begin_344 rfl (lv_at hl 5 rfl) ?_
                            refine lv_iconst (v := 0) hx hb d7_begin_345 (by decide) ?_
                            refine sr_put hx hb hw hown hK hB 32 (hX 20 (by decide)) cf_20 us7 tk7 nm7 (by decide) fl_7_163 rfl rfl rfl rfl d7_begin_346 (fun H locs hB => ?_)
                            refine lv_aload_n hx hb d7_begin_349 rfl (lv_at hl 5 rfl) ?_
                            refine lv_iconst (v := 0) hx hb d7_begin_350 (by decide) ?_
                            refine sr_put hx hb hw hown hK hB 33 (hX 20 (by decide)) cf_20 us7 tk7 nm7 (by decide) fl_7_166 rfl rfl rfl rfl d7_begin_351 (fun H locs hB => ?_)
                            refine lv_aload_n hx hb d7_begin_354 rfl (lv_at hl 5 rfl) ?_
                            refine lv_aload_n hx hb d7_begin_355 rfl (lv_at hl 5 rfl) ?_
                            refine sr_get (v := .int (S 20 0 0)) hx hb hw hown hK hB 0 (hX 20 (by decide)) cf_20 us7 (by decide) fl_7_100 (rfl) d7_begin_356 ?_
                            refine sr_put hx hb hw hown hK hB 7 (hX 20 (by decide)) cf_20 us7 tk7 nm7 (by decide) fl_7_114 rfl rfl rfl rfl d7_begin_359 (fun H locs hB => ?_)
                            refine lv_iload hx hb d7_begin_362 (lv_at hl 1 rfl) ?_
                            exact se_i C0 hB (by rw [if_neg c_1, if_neg c_3, if_neg c_4, if_pos c_7, if_neg c_9, if_neg c_94, if_pos c_179, if_pos c_180, if_pos c_182, if_pos c_189, if_pos c_197, if_neg c_198, if_neg c_201] at hO; exact hO) d7_begin_364
                          · refine lv_bipush (v := (-8)) hx hb d7_begin_277 (by decide) ?_
                            refine lv_goto (tgt := 283) hx hb d7_begin_279 (by decide) ?_
                            refine lv_istore (lv' := [(6, .int (-8)), (7, .int x2), (5, .int 0), (4, .int (A 35 0 (x2.toNatClampNeg))), (3, .int 1), (0, .ref (ad 20 0)), (1, .int x1), (2, .int x2)]) hx hb d7_begin_283 hl (by decide) rfl (fun ls hl => ?_)
                            refine lv_iload hx hb d7_begin_285 (lv_at hl 0 rfl) ?_
                            refine lv_if_ge (tgt := 293) hx hb d7_begin_287 (by decide) (fun c => absurd c (by decide)) (fun _ => ?_)
                            refine lv_iload hx hb d7_begin_290 (lv_at hl 0 rfl) ?_
                            exact se_i C0 hB (by rw [if_neg c_1, if_neg c_3, if_neg c_4, if_pos c_7, if_neg c_9, if_neg c_94, if_pos c_179, if_pos c_180, if_pos c_182, if_pos c_189, if_pos c_197, if_neg c_198, if_pos c_201] at hO; exact hO) d7_begin_292
                      · refine lv_bipush (v := (-7)) hx hb d7_begin_245 (by decide) ?_
                        refine lv_goto (tgt := 283) hx hb d7_begin_247 (by decide) ?_
                        refine lv_istore (lv' := [(6, .int (-7)), (7, .int x2), (5, .int 0), (4, .int (A 35 0 (x2.toNatClampNeg))), (3, .int 1), (0, .ref (ad 20 0)), (1, .int x1), (2, .int x2)]) hx hb d7_begin_283 hl (by decide) rfl (fun ls hl => ?_)
                        refine lv_iload hx hb d7_begin_285 (lv_at hl 0 rfl) ?_
                        refine lv_if_ge (tgt := 293) hx hb d7_begin_287 (by decide) (fun c => absurd c (by decide)) (fun _ => ?_)
                        refine lv_iload hx hb d7_begin_290 (lv_at hl 0 rfl) ?_
                        exact se_i C0 hB (by rw [if_neg c_1, if_neg c_3, if_neg c_4, if_pos c_7, if_neg c_9, if_neg c_94, if_pos c_179, if_pos c_180, if_pos c_182, if_pos c_189, if_neg c_197] at hO; exact hO) d7_begin_292
                    · refine lv_bipush (v := (-4)) hx hb d7_begin_160 (by decide) ?_
                      refine lv_goto (tgt := 166) hx hb d7_begin_162 (by decide) ?_
                      refine lv_istore (lv' := [(6, .int (-4)), (5, .int 0), (4, .int (A 35 0 (x2.toNatClampNeg))), (3, .int 1), (0, .ref (ad 20 0)), (1, .int x1), (2, .int x2)]) hx hb d7_begin_166 hl (by decide) rfl (fun ls hl => ?_)
                      refine lv_iload hx hb d7_begin_168 (lv_at hl 0 rfl) ?_
                      refine lv_if_ne (tgt := 198) hx hb d7_begin_170 (by decide) (fun _ => ?_) (fun c => absurd c (by decide))
                      refine lv_iload hx hb d7_begin_198 (lv_at hl 0 rfl) ?_
                      refine lv_if_ne (tgt := 219) hx hb d7_begin_200 (by decide) (fun _ => ?_) (fun c => absurd c (by decide))
                      refine lv_iload_n hx hb d7_begin_219 rfl (lv_at hl 5 rfl) ?_
                      refine lv_if_ne (tgt := 232) hx hb d7_begin_220 (by decide) (fun _ => ?_) (fun c => absurd c c_3)
                      refine lv_iload_n hx hb d7_begin_232 rfl (lv_at hl 6 rfl) ?_
                      refine lv_istore (lv' := [(7, .int x2), (6, .int (-4)), (5, .int 0), (4, .int (A 35 0 (x2.toNatClampNeg))), (3, .int 1), (0, .ref (ad 20 0)), (1, .int x1), (2, .int x2)]) hx hb d7_begin_233 hl (by decide) rfl (fun ls hl => ?_)
                      refine lv_iload hx hb d7_begin_235 (lv_at hl 1 rfl) ?_
                      refine lv_if_ne (tgt := 285) hx hb d7_begin_237 (by decide) (fun _ => ?_) (fun c => absurd c (by decide))
                      refine lv_iload hx hb d7_begin_285 (lv_at hl 1 rfl) ?_
                      refine lv_if_ge (tgt := 293) hx hb d7_begin_287 (by decide) (fun c => absurd c (by decide)) (fun _ => ?_)
                      refine lv_iload hx hb d7_begin_290 (lv_at hl 1 rfl) ?_
                      exact se_i C0 hB (by rw [if_neg c_1, if_neg c_3, if_neg c_4, if_pos c_7, if_neg c_9, if_neg c_94, if_pos c_179, if_pos c_180, if_pos c_182, if_neg c_189] at hO; exact hO) d7_begin_292
                · refine lv_bipush (v := (-2)) hx hb d7_begin_112 (by decide) ?_
                  refine lv_goto (tgt := 166) hx hb d7_begin_114 (by decide) ?_
                  refine lv_istore (lv' := [(6, .int (-2)), (5, .int 0), (4, .int (A 35 0 (x2.toNatClampNeg))), (3, .int 1), (0, .ref (ad 20 0)), (1, .int x1), (2, .int x2)]) hx hb d7_begin_166 hl (by decide) rfl (fun ls hl => ?_)
                  refine lv_iload hx hb d7_begin_168 (lv_at hl 0 rfl) ?_
                  refine lv_if_ne (tgt := 198) hx hb d7_begin_170 (by decide) (fun _ => ?_) (fun c => absurd c (by decide))
                  refine lv_iload hx hb d7_begin_198 (lv_at hl 0 rfl) ?_
                  refine lv_if_ne (tgt := 219) hx hb d7_begin_200 (by decide) (fun _ => ?_) (fun c => absurd c (by decide))
                  refine lv_iload_n hx hb d7_begin_219 rfl (lv_at hl 5 rfl) ?_
                  refine lv_if_ne (tgt := 232) hx hb d7_begin_220 (by decide) (fun _ => ?_) (fun c => absurd c c_3)
                  refine lv_iload_n hx hb d7_begin_232 rfl (lv_at hl 6 rfl) ?_
                  refine lv_istore (lv' := [(7, .int x2), (6, .int (-2)), (5, .int 0), (4, .int (A 35 0 (x2.toNatClampNeg))), (3, .int 1), (0, .ref (ad 20 0)), (1, .int x1), (2, .int x2)]) hx hb d7_begin_233 hl (by decide) rfl (fun ls hl => ?_)
                  refine lv_iload hx hb d7_begin_235 (lv_at hl 1 rfl) ?_
                  refine lv_if_ne (tgt := 285) hx hb d7_begin_237 (by decide) (fun _ => ?_) (fun c => absurd c (by decide))
                  refine lv_iload hx hb d7_begin_285 (lv_at hl 1 rfl) ?_
                  refine lv_if_ge (tgt := 293) hx hb d7_begin_287 (by decide) (fun c => absurd c (by decide)) (fun _ => ?_)
                  refine lv_iload hx hb d7_begin_290 (lv_at hl 1 rfl) ?_
                  exact se_i C0 hB (by rw [if_neg c_1, if_neg c_3, if_neg c_4, if_pos c_7, if_neg c_9, if_neg c_94, if_pos c_179, if_neg c_180] at hO; exact hO) d7_begin_292
              · refine lv_iconst (v := 1) hx hb d7_begin_98 (by decide) ?_
                refine lv_goto (tgt := 103) hx hb d7_begin_99 (by decide) ?_
                refine lv_istore (lv' := [(5, .int 1), (4, .int (A 35 0 (x2.toNatClampNeg))), (3, .int 1), (0, .ref (ad 20 0)), (1, .int x1), (2, .int x2)]) hx hb d7_begin_103 hl (by decide) rfl (fun ls hl => ?_)
                refine lv_aload_n hx hb d7_begin_105 rfl (lv_at hl 3 rfl) ?_
                refine sr_get (v := .int (S 20 0 6)) hx hb hw hown hK hB 6 (hX 20 (by decide)) cf_20 us7 (by decide) fl_7_26 (rfl) d7_begin_106 ?_
                refine lv_if_ge (tgt := 117) hx hb d7_begin_109 (by decide) (fun c_218 => ?_) (fun c_218 => ?_)
                · refine lv_iload_n hx hb d7_begin_117 rfl (lv_at hl 4 rfl) ?_
                  refine lv_iconst (v := 1) hx hb d7_begin_118 (by decide) ?_
                  refine lv_icmp_ne (tgt := 135) hx hb d7_begin_119 (by decide) (fun _ => ?_) (fun c => absurd c c_179)
                  refine lv_aload_n hx hb d7_begin_135 rfl (lv_at hl 3 rfl) ?_
                  refine sr_get (v := .ref (ad 23 0)) hx hb hw hown hK hB 2 (hX 20 (by decide)) cf_20 us7 (by decide) fl_7_13 (rfl) d7_begin_136 ?_
                  refine lv_aload_n hx hb d7_begin_139 rfl (lv_at hl 3 rfl) ?_
                  refine sr_get (v := .int (S 20 0 6)) hx hb hw hown hK hB 6 (hX 20 (by decide)) cf_20 us7 (by decide) fl_7_26 (rfl) d7_begin_140 ?_
                  refine sr_iald (v := A 23 0 ((S 20 0 6).toNatClampNeg)) hx hb hK hB (hX 23 (by decide)) rfl rfl (by (refine vp_in_iff.mpr ?_); (show 0 ≤ (S 20 0 6).toInt ∧ (S 20 0 6).toInt < ((16 : Nat) : Int)); (have a1 := sub1_i (x := S 20 0 20) (by omega)); (have kc_4 := hasBin_t c_4); (have kc_218 := le_i c_218); (have l0 : (0 : Int32).toInt = 0 := rfl); (have l20 : (20 : Int32).toInt = 20 := rfl); (have l6 : (6 : Int32).toInt = 6 := rfl);  omega) d7_begin_143 (rfl) ?_
                  refine lv_iconst (v := 2) hx hb d7_begin_144 (by decide) ?_
                  refine lv_icmp_ne (tgt := 153) hx hb d7_begin_145 (by decide) (fun c_220 => ?_) (fun c_220 => ?_)
                  · refine lv_aload_n hx hb d7_begin_153 rfl (lv_at hl 3 rfl) ?_
                    refine sr_get (v := .int (S 20 0 27)) hx hb hw hown hK hB 27 (hX 20 (by decide)) cf_20 us7 (by decide) fl_7_81 (rfl) d7_begin_154 ?_
                    refine lv_if_lt (tgt := 165) hx hb d7_begin_157 (by decide) (fun c_221 => ?_) (fun c_221 => ?_)
                    · refine lv_iconst (v := 0) hx hb d7_begin_165 (by decide) ?_
                      refine lv_istore (lv' := [(6, .int 0), (5, .int 1), (4, .int (A 35 0 (x2.toNatClampNeg))), (3, .int 1), (0, .ref (ad 20 0)), (1, .int x1), (2, .int x2)]) hx hb d7_begin_166 hl (by decide) rfl (fun ls hl => ?_)
                      refine lv_iload hx hb d7_begin_168 (lv_at hl 0 rfl) ?_
                      refine lv_if_ne (tgt := 198) hx hb d7_begin_170 (by decide) (fun c => absurd (by decide) c) (fun _ => ?_)
                      refine lv_iload_n hx hb d7_begin_173 rfl (lv_at hl 5 rfl) ?_
                      refine lv_iconst (v := 3) hx hb d7_begin_174 (by decide) ?_
                      refine lv_icmp_eq (tgt := 187) hx hb d7_begin_175 (by decide) (fun c_223 => ?_) (fun c_223 => ?_)
                      · refine lv_aload_n hx hb d7_begin_187 rfl (lv_at hl 4 rfl) ?_
                        refine sr_vp C0 hB (m7_isWatched hX  ) (hX 20 (by decide)) cf_20 ml_7_143 im_7_isWatched se_7_isWatched in_7 cd_7_isWatched hd7_isWatched ⟨⟨rfl, rfl⟩, by decide, by decide⟩ ⟨Nat.zero_le _, Nat.zero_le _⟩ hl.1 rfl (Nat.le_of_ble_eq_true rfl) d7_begin_188 ?_
                        refine lv_if_ne (tgt := 198) hx hb d7_begin_191 (by decide) (fun c_224 => ?_) (fun c_224 => ?_)
                        · refine lv_iload hx hb d7_begin_198 (lv_at hl 0 rfl) ?_
                          refine lv_if_ne (tgt := 219) hx hb d7_begin_200 (by decide) (fun c => absurd (by decide) c) (fun _ => ?_)
                          refine lv_iload_n hx hb d7_begin_203 rfl (lv_at hl 5 rfl) ?_
                          refine lv_if_ne (tgt := 219) hx hb d7_begin_204 (by decide) (fun _ => ?_) (fun c => absurd c c_3)
                          refine lv_iload_n hx hb d7_begin_219 rfl (lv_at hl 5 rfl) ?_
                          refine lv_if_ne (tgt := 232) hx hb d7_begin_220 (by decide) (fun _ => ?_) (fun c => absurd c c_3)
                          refine lv_iload_n hx hb d7_begin_232 rfl (lv_at hl 6 rfl) ?_
                          refine lv_istore (lv' := [(7, .int x2), (6, .int 0), (5, .int 1), (4, .int (A 35 0 (x2.toNatClampNeg))), (3, .int 1), (0, .ref (ad 20 0)), (1, .int x1), (2, .int x2)]) hx hb d7_begin_233 hl (by decide) rfl (fun ls hl => ?_)
                          refine lv_iload hx hb d7_begin_235 (lv_at hl 1 rfl) ?_
                          refine lv_if_ne (tgt := 285) hx hb d7_begin_237 (by decide) (fun c => absurd (by decide) c) (fun _ => ?_)
                          refine lv_iload hx hb d7_begin_240 (lv_at hl 0 rfl) ?_
                          refine lv_if_ge (tgt := 250) hx hb d7_begin_242 (by decide) (fun c_229 => ?_) (fun c_229 => ?_)
                          · refine lv_aload_n hx hb d7_begin_250 rfl (lv_at hl 5 rfl) ?_
                            refine sr_get (v := .int (S 20 0 34)) hx hb hw hown hK hB 34 (hX 20 (by decide)) cf_20 us7 (by decide) fl_7_130 (rfl) d7_begin_251 ?_
                            refine lv_sipush (v := 290) hx hb d7_begin_254 (by decide) ?_
                            refine lv_icmp_ge (tgt := 277) hx hb d7_begin_257 (by decide) (fun c_230 => ?_) (fun c_230 => ?_)
                            · refine lv_bipush (v := (-8)) hx hb d7_begin_277 (by decide) ?_
                              refine lv_goto (tgt := 283) hx hb d7_begin_279 (by decide) ?_
                              refine lv_istore (lv' := [(6, .int (-8)), (7, .int x2), (5, .int 1), (4, .int (A 35 0 (x2.toNatClampNeg))), (3, .int 1), (0, .ref (ad 20 0)), (1, .int x1), (2, .int x2)]) hx hb d7_begin_283 hl (by decide) rfl (fun ls hl => ?_)
                              refine lv_iload hx hb d7_begin_285 (lv_at hl 0 rfl) ?_
                              refine lv_if_ge (tgt := 293) hx hb d7_begin_287 (by decide) (fun c => absurd c (by decide)) (fun _ => ?_)
                              refine lv_iload hx hb d7_begin_290 (lv_at hl 0 rfl) ?_
                              exact se_i C0 hB (by rw [if_neg c_1, if_neg c_3, if_neg c_4, if_pos c_7, if_neg c_9, if_neg c_94, if_neg c_179, if_pos c_218, if_neg c_220, if_pos c_221, if_pos c_223, if_neg c_224, if_pos c_229, if_pos c_230] at hO; exact hO) d7_begin_292
                            · refine lv_iload_n hx hb d7_begin_260 rfl (lv_at hl 6 rfl) ?_
                              refine lv_iconst (v := 1) hx hb d7_begin_261 (by decide) ?_
                              refine lv_icmp_ne (tgt := 282) hx hb d7_begin_262 (by decide) (fun _ => ?_) (fun c => absurd c c_179)
                              refine lv_iconst (v := 0) hx hb d7_begin_282 (by decide) ?_
                              refine lv_istore (lv' := [(6, .int 0), (7, .int x2), (5, .int 1), (4, .int (A 35 0 (x2.toNatClampNeg))), (3, .int 1), (0, .ref (ad 20 0)), (1, .int x1), (2, .int x2)]) hx hb d7_begin_283 hl (by decide) rfl (fun ls hl => ?_)
                              refine lv_iload hx hb d7_begin_285 (lv_at hl 0 rfl) ?_
                              refine lv_if_ge (tgt := 293) hx hb d7_begin_287 (by decide) (fun _ => ?_) (fun c => absurd (by decide) c)
                              refine lv_aload_n hx hb d7_begin_293 rfl (lv_at hl 5 rfl) ?_
                              refine lv_iload_n hx hb d7_begin_294 rfl (lv_at hl 6 rfl) ?_
                              refine sr_put hx hb hw hown hK hB 27 (hX 20 (by decide)) cf_20 us7 tk7 nm7 (by decide) fl_7_81 rfl rfl rfl rfl d7_begin_295 (fun H locs hB => ?_)
                              refine lv_aload_n hx hb d7_begin_298 rfl (lv_at hl 5 rfl) ?_
                              refine lv_iload hx hb d7_begin_299 (lv_at hl 1 rfl) ?_
                              refine sr_put hx hb hw hown hK hB 28 (hX 20 (by decide)) cf_20 us7 tk7 nm7 (by decide) fl_7_153 rfl rfl rfl rfl d7_begin_301 (fun H locs hB => ?_)
                              refine lv_aload_n hx hb d7_begin_304 rfl (lv_at hl 5 rfl) ?_
                              refine lv_iload_n hx hb d7_begin_305 rfl (lv_at hl 6 rfl) ?_
                              refine lv_if_ne (tgt := 313) hx hb d7_begin_306 (by decide) (fun _ => ?_) (fun c => absurd c c_3)
                              refine lv_iconst (v := (-1)) hx hb d7_begin_313 (by decide) ?_
                              refine sr_put hx hb hw hown hK hB 29 (hX 20 (by decide)) cf_20 us7 tk7 nm7 (by decide) fl_7_124 rfl rfl rfl rfl d7_begin_314 (fun H locs hB => ?_)
                              refine lv_aload_n hx hb d7_begin_317 rfl (lv_at hl 5 rfl) ?_
                              refine lv_aload_n hx hb d7_begin_318 rfl (lv_at hl 5 rfl) ?_
                              refine sr_get (v := .int (S 20 0 0)) hx hb hw hown hK hB 0 (hX 20 (by decide)) cf_20 us7 (by decide) fl_7_100 (rfl) d7_begin_319 ?_
                              refine sr_put hx hb hw hown hK hB 30 (hX 20 (by decide)) cf_20 us7 tk7 nm7 (by decide) fl_7_156 rfl rfl rfl rfl d7_begin_322 (fun H locs hB => ?_)
                              refine lv_aload_n hx hb d7_begin_325 rfl (lv_at hl 5 rfl) ?_
                              refine lv_iload_n hx hb d7_begin_326 rfl (lv_at hl 6 rfl) ?_
                              refine lv_iconst (v := 2) hx hb d7_begin_327 (by decide) ?_
                              refine lv_icmp_eq (tgt := 336) hx hb d7_begin_328 (by decide) (fun c => absurd c (by rw [c_223]; decide)) (fun _ => ?_)
                              refine lv_iload hx hb d7_begin_331 (lv_at hl 2 rfl) ?_
                              refine lv_if_eq (tgt := 340) hx hb d7_begin_333 (by decide) (fun c => absurd c (by decide)) (fun _ => ?_)
                              refine lv_iconst (v := 1) hx hb d7_begin_336 (by decide) ?_
                              refine lv_goto (tgt := 341) hx hb d7_begin_337 (by decide) ?_
                              refine sr_put hx hb hw hown hK hB 31 (hX 20 (by decide)) cf_20 us7 tk7 nm7 (by decide) fl_7_159 rfl rfl rfl rfl d7_begin_341 (fun H locs hB => ?_)
                              refine lv_aload_n hx hb d7_begin_344 rfl (lv_at hl 5 rfl) ?_
                              refine lv_iconst (v := 0) hx hb d7_begin_345 (by decide) ?_
                              refine sr_put hx hb hw hown hK hB 32 (hX 20 (by decide)) cf_20 us7 tk7 nm7 (by decide) fl_7_163 rfl rfl rfl rfl d7_begin_346 (fun H locs hB => ?_)
                              refine lv_aload_n hx hb d7_begin_349 rfl (lv_at hl 5 rfl) ?_
                              refine lv_iconst (v := 0) hx hb d7_begin_350 (by decide) ?_
                              refine sr_put hx hb hw hown hK hB 33 (hX 20 (by decide)) cf_20 us7 tk7 nm7 (by decide) fl_7_166 rfl rfl rfl rfl d7_begin_351 (fun H locs hB => ?_)
                              refine lv_aload_n hx hb d7_begin_354 rfl (lv_at hl 5 rfl) ?_
                              refine lv_aload_n hx hb d7_begin_355 rfl (lv_at hl 5 rfl) ?_
                              refine sr_get (v := .int (S 20 0 0)) hx hb hw hown hK hB 0 (hX 20 (by decide)) cf_20 us7 (by decide) fl_7_100 (rfl) d7_begin_356 ?_
                              refine sr_put hx hb hw hown hK hB 7 (hX 20 (by decide)) cf_20 us7 tk7 nm7 (by decide) fl_7_114 rfl rfl rfl rfl d7_begin_359 (fun H locs hB => ?_)
                              refine lv_iload hx hb d7_begin_362 (lv_at hl 1 rfl) ?_
                              exact se_i C0 hB (by rw [if_neg c_1, if_neg c_3, if_neg c_4, if_pos c_7, if_neg c_9, if_neg c_94, if_neg c_179, if_pos c_218, if_neg c_220, if_pos c_221, if_pos c_223, if_neg c_224, if_pos c_229, if_neg c_230] at hO; exact hO) d7_begin_364
                          · refine lv_bipush (v := (-7)) hx hb d7_begin_245 (by decide) ?_
                            refine lv_goto (tgt := 283) hx hb d7_begin_247 (by decide) ?_
                            refine lv_istore (lv' := [(6, .int (-7)), (7, .int x2), (5, .int 1), (4, .int (A 35 0 (x2.toNatClampNeg))), (3, .int 1), (0, .ref (ad 20 0)), (1, .int x1), (2, .int x2)]) hx hb d7_begin_283 hl (by decide) rfl (fun ls hl => ?_)
                            refine lv_iload hx hb d7_begin_285 (lv_at hl 0 rfl) ?_
                            refine lv_if_ge (tgt := 293) hx hb d7_begin_287 (by decide) (fun c => absurd c (by decide)) (fun _ => ?_)
                            refine lv_iload hx hb d7_begin_290 (lv_at hl 0 rfl) ?_
                            exact se_i C0 hB (by rw [if_neg c_1, if_neg c_3, if_neg c_4, if_pos c_7, if_neg c_9, if_neg c_94, if_neg c_179, if_pos c_218, if_neg c_220, if_pos c_221, if_pos c_223, if_neg c_224, if_neg c_229] at hO; exact hO) d7_begin_292
                        · refine lv_bipush (v := (-5)) hx hb d7_begin_194 (by decide) ?_
                          refine lv_istore (lv' := [(6, .int (-5)), (5, .int 1), (4, .int (A 35 0 (x2.toNatClampNeg))), (3, .int 1), (0, .ref (ad 20 0)), (1, .int x1), (2, .int x2)]) hx hb d7_begin_196 hl (by decide) rfl (fun ls hl => ?_)
                          refine lv_iload hx hb d7_begin_198 (lv_at hl 0 rfl) ?_
                          refine lv_if_ne (tgt := 219) hx hb d7_begin_200 (by decide) (fun _ => ?_) (fun c => absurd c (by decide))
                          refine lv_iload_n hx hb d7_begin_219 rfl (lv_at hl 5 rfl) ?_
                          refine lv_if_ne (tgt := 232) hx hb d7_begin_220 (by decide) (fun _ => ?_) (fun c => absurd c c_3)
                          refine lv_iload_n hx hb d7_begin_232 rfl (lv_at hl 6 rfl) ?_
                          refine lv_istore (lv' := [(7, .int x2), (6, .int (-5)), (5, .int 1), (4, .int (A 35 0 (x2.toNatClampNeg))), (3, .int 1), (0, .ref (ad 20 0)), (1, .int x1), (2, .int x2)]) hx hb d7_begin_233 hl (by decide) rfl (fun ls hl => ?_)
                          refine lv_iload hx hb d7_begin_235 (lv_at hl 1 rfl) ?_
                          refine lv_if_ne (tgt := 285) hx hb d7_begin_237 (by decide) (fun _ => ?_) (fun c => absurd c (by decide))
                          refine lv_iload hx hb d7_begin_285 (lv_at hl 1 rfl) ?_
                          refine lv_if_ge (tgt := 293) hx hb d7_begin_287 (by decide) (fun c => absurd c (by decide)) (fun _ => ?_)
                          refine lv_iload hx hb d7_begin_290 (lv_at hl 1 rfl) ?_
                          exact se_i C0 hB (by rw [if_neg c_1, if_neg c_3, if_neg c_4, if_pos c_7, if_neg c_9, if_neg c_94, if_neg c_179, if_pos c_218, if_neg c_220, if_pos c_221, if_pos c_223, if_pos c_224] at hO; exact hO) d7_begin_292
                      · refine lv_iload_n hx hb d7_begin_178 rfl (lv_at hl 5 rfl) ?_
                        refine lv_if_ne (tgt := 198) hx hb d7_begin_179 (by decide) (fun _ => ?_) (fun c => absurd c c_3)
                        refine lv_iload hx hb d7_begin_198 (lv_at hl 0 rfl) ?_
                        refine lv_if_ne (tgt := 219) hx hb d7_begin_200 (by decide) (fun c => absurd (by decide) c) (fun _ => ?_)
                        refine lv_iload_n hx hb d7_begin_203 rfl (lv_at hl 5 rfl) ?_
                        refine lv_if_ne (tgt := 219) hx hb d7_begin_204 (by decide) (fun _ => ?_) (fun c => absurd c c_3)
                        refine lv_iload_n hx hb d7_begin_219 rfl (lv_at hl 5 rfl) ?_
                        refine lv_if_ne (tgt := 232) hx hb d7_begin_220 (by decide) (fun _ => ?_) (fun c => absurd c c_3)
                        refine lv_iload_n hx hb d7_begin_232 rfl (lv_at hl 6 rfl) ?_
                        refine lv_istore (lv' := [(7, .int x2), (6, .int 0), (5, .int 1), (4, .int (A 35 0 (x2.toNatClampNeg))), (3, .int 1), (0, .ref (ad 20 0)), (1, .int x1), (2, .int x2)]) hx hb d7_begin_233 hl (by decide) rfl (fun ls hl => ?_)
                        refine lv_iload hx hb d7_begin_235 (lv_at hl 1 rfl) ?_
                        refine lv_if_ne (tgt := 285) hx hb d7_begin_237 (by decide) (fun c => absurd (by decide) c) (fun _ => ?_)
                        refine lv_iload hx hb d7_begin_240 (lv_at hl 0 rfl) ?_
                        refine lv_if_ge (tgt := 250) hx hb d7_begin_242 (by decide) (fun c_247 => ?_) (fun c_247 => ?_)
                        · refine lv_aload_n hx hb d7_begin_250 rfl (lv_at hl 5 rfl) ?_
                          refine sr_get (v := .int (S 20 0 34)) hx hb hw hown hK hB 34 (hX 20 (by decide)) cf_20 us7 (by decide) fl_7_130 (rfl) d7_begin_251 ?_
                          refine lv_sipush (v := 290) hx hb d7_begin_254 (by decide) ?_
                          refine lv_icmp_ge (tgt := 277) hx hb d7_begin_257 (by decide) (fun c_248 => ?_) (fun c_248 => ?_)
                          · refine lv_bipush (v := (-8)) hx hb d7_begin_277 (by decide) ?_
                            refine lv_goto (tgt := 283) hx hb d7_begin_279 (by decide) ?_
                            refine lv_istore (lv' := [(6, .int (-8)), (7, .int x2), (5, .int 1), (4, .int (A 35 0 (x2.toNatClampNeg))), (3, .int 1), (0, .ref (ad 20 0)), (1, .int x1), (2, .int x2)]) hx hb d7_begin_283 hl (by decide) rfl (fun ls hl => ?_)
                            refine lv_iload hx hb d7_begin_285 (lv_at hl 0 rfl) ?_
                            refine lv_if_ge (tgt := 293) hx hb d7_begin_287 (by decide) (fun c => absurd c (by decide)) (fun _ => ?_)
                            refine lv_iload hx hb d7_begin_290 (lv_at hl 0 rfl) ?_
                            exact se_i C0 hB (by rw [if_neg c_1, if_neg c_3, if_neg c_4, if_pos c_7, if_neg c_9, if_neg c_94, if_neg c_179, if_pos c_218, if_neg c_220, if_pos c_221, if_neg c_223, if_pos c_247, if_pos c_248] at hO; exact hO) d7_begin_292
                          · refine lv_iload_n hx hb d7_begin_260 rfl (lv_at hl 6 rfl) ?_
                            refine lv_iconst (v := 1) hx hb d7_begin_261 (by decide) ?_
                            refine lv_icmp_ne (tgt := 282) hx hb d7_begin_262 (by decide) (fun _ => ?_) (fun c => absurd c c_179)
                            refine lv_iconst (v := 0) hx hb d7_begin_282 (by decide) ?_
                            refine lv_istore (lv' := [(6, .int 0), (7, .int x2), (5, .int 1), (4, .int (A 35 0 (x2.toNatClampNeg))), (3, .int 1), (0, .ref (ad 20 0)), (1, .int x1), (2, .int x2)]) hx hb d7_begin_283 hl (by decide) rfl (fun ls hl => ?_)
                            refine lv_iload hx hb d7_begin_285 (lv_at hl 0 rfl) ?_
                            refine lv_if_ge (tgt := 293) hx hb d7_begin_287 (by decide) (fun _ => ?_) (fun c => absurd (by decide) c)
                            refine lv_aload_n hx hb d7_begin_293 rfl (lv_at hl 5 rfl) ?_
                            refine lv_iload_n hx hb d7_begin_294 rfl (lv_at hl 6 rfl) ?_
                            refine sr_put hx hb hw hown hK hB 27 (hX 20 (by decide)) cf_20 us7 tk7 nm7 (by decide) fl_7_81 rfl rfl rfl rfl d7_begin_295 (fun H locs hB => ?_)
                            refine lv_aload_n hx hb d7_begin_298 rfl (lv_at hl 5 rfl) ?_
                            refine lv_iload hx hb d7_begin_299 (lv_at hl 1 rfl) ?_
                            refine sr_put hx hb hw hown hK hB 28 (hX 20 (by decide)) cf_20 us7 tk7 nm7 (by decide) fl_7_153 rfl rfl rfl rfl d7_begin_301 (fun H locs hB => ?_)
                            refine lv_aload_n hx hb d7_begin_304 rfl (lv_at hl 5 rfl) ?_
                            refine lv_iload_n hx hb d7_begin_305 rfl (lv_at hl 6 rfl) ?_
                            refine lv_if_ne (tgt := 313) hx hb d7_begin_306 (by decide) (fun _ => ?_) (fun c => absurd c c_3)
                            refine lv_iconst (v := (-1)) hx hb d7_begin_313 (by decide) ?_
                            refine sr_put hx hb hw hown hK hB 29 (hX 20 (by decide)) cf_20 us7 tk7 nm7 (by decide) fl_7_124 rfl rfl rfl rfl d7_begin_314 (fun H locs hB => ?_)
                            refine lv_aload_n hx hb d7_begin_317 rfl (lv_at hl 5 rfl) ?_
                            refine lv_aload_n hx hb d7_begin_318 rfl (lv_at hl 5 rfl) ?_
                            refine sr_get (v := .int (S 20 0 0)) hx hb hw hown hK hB 0 (hX 20 (by decide)) cf_20 us7 (by decide) fl_7_100 (rfl) d7_begin_319 ?_
                            refine sr_put hx hb hw hown hK hB 30 (hX 20 (by decide)) cf_20 us7 tk7 nm7 (by decide) fl_7_156 rfl rfl rfl rfl d7_begin_322 (fun H locs hB => ?_)
                            refine lv_aload_n hx hb d7_begin_325 rfl (lv_at hl 5 rfl) ?_
                            refine lv_iload_n hx hb d7_begin_326 rfl (lv_at hl 6 rfl) ?_
                            refine lv_iconst (v := 2) hx hb d7_begin_327 (by decide) ?_
                            refine lv_icmp_eq (tgt := 336) hx hb d7_begin_328 (by decide) (fun c_253 => ?_) (fun c_253 => ?_)
                            · refine lv_iconst (v := 1) hx hb d7_begin_336 (by decide) ?_
                              refine lv_goto (tgt := 341) hx hb d7_begin_337 (by decide) ?_
                              refine sr_put hx hb hw hown hK hB 31 (hX 20 (by decide)) cf_20 us7 tk7 nm7 (by decide) fl_7_159 rfl rfl rfl rfl d7_begin_341 (fun H locs hB => ?_)
                              refine lv_aload_n hx hb d7_begin_344 rfl (lv_at hl 5 rfl) ?_
                              refine lv_iconst (v := 0) hx hb d7_begin_345 (by decide) ?_
                              refine sr_put hx hb hw hown hK hB 32 (hX 20 (by decide)) cf_20 us7 tk7 nm7 (by decide) fl_7_163 rfl rfl rfl rfl d7_begin_346 (fun H locs hB => ?_)
                              refine lv_aload_n hx hb d7_begin_349 rfl (lv_at hl 5 rfl) ?_
                              refine lv_iconst (v := 0) hx hb d7_begin_350 (by decide) ?_
                              refine sr_put hx hb hw hown hK hB 33 (hX 20 (by decide)) cf_20 us7 tk7 nm7 (by decide) fl_7_166 rfl rfl rfl rfl d7_begin_351 (fun H locs hB => ?_)
                              refine lv_aload_n hx hb d7_begin_354 rfl (lv_at hl 5 rfl) ?_
                              refine lv_aload_n hx hb d7_begin_355 rfl (lv_at hl 5 rfl) ?_
                              refine sr_get (v := .int (S 20 0 0)) hx hb hw hown hK hB 0 (hX 20 (by decide)) cf_20 us7 (by decide) fl_7_100 (rfl) d7_begin_356 ?_
                              refine sr_put hx hb hw hown hK hB 7 (hX 20 (by decide)) cf_20 us7 tk7 nm7 (by decide) fl_7_114 rfl rfl rfl rfl d7_begin_359 (fun H locs hB => ?_)
                              refine lv_iload hx hb d7_begin_362 (lv_at hl 1 rfl) ?_
                              exact se_i C0 hB (by rw [if_neg c_1, if_neg c_3, if_neg c_4, if_pos c_7, if_neg c_9, if_neg c_94, if_neg c_179, if_pos c_218, if_neg c_220, if_pos c_221, if_neg c_223, if_pos c_247, if_neg c_248, if_pos c_253] at hO; exact hO) d7_begin_364
                            · refine lv_iload hx hb d7_begin_331 (lv_at hl 2 rfl) ?_
                              refine lv_if_eq (tgt := 340) hx hb d7_begin_333 (by decide) (fun c => absurd c (by decide)) (fun _ => ?_)
                              refine lv_iconst (v := 1) hx hb d7_begin_336 (by decide) ?_
                              refine lv_goto (tgt := 341) hx hb d7_begin_337 (by decide) ?_
                              refine sr_put hx hb hw hown hK hB 31 (hX 20 (by decide)) cf_20 us7 tk7 nm7 (by decide) fl_7_159 rfl rfl rfl rfl d7_begin_341 (fun H locs hB => ?_)
                              refine lv_aload_n hx hb d7_begin_344 rfl (lv_at hl 5 rfl) ?_
                              refine lv_iconst (v := 0) hx hb d7_begin_345 (by decide) ?_
                              refine sr_put hx hb hw hown hK hB 32 (hX 20 (by decide)) cf_20 us7 tk7 nm7 (by decide) fl_7_163 rfl rfl rfl rfl d7_begin_346 (fun H locs hB => ?_)
                              refine lv_aload_n hx hb d7_begin_349 rfl (lv_at hl 5 rfl) ?_
                              refine lv_iconst (v := 0) hx hb d7_begin_350 (by decide) ?_
                              refine sr_put hx hb hw hown hK hB 33 (hX 20 (by decide)) cf_20 us7 tk7 nm7 (by decide) fl_7_166 rfl rfl rfl rfl d7_begin_351 (fun H locs hB => ?_)
                              refine lv_aload_n hx hb d7_begin_354 rfl (lv_at hl 5 rfl) ?_
                              refine lv_aload_n hx hb d7_begin_355 rfl (lv_at hl 5 rfl) ?_
                              refine sr_get (v := .int (S 20 0 0)) hx hb hw hown hK hB 0 (hX 20 (by decide)) cf_20 us7 (by decide) fl_7_100 (rfl) d7_begin_356 ?_
                              refine sr_put hx hb hw hown hK hB 7 (hX 20 (by decide)) cf_20 us7 tk7 nm7 (by decide) fl_7_114 rfl rfl rfl rfl d7_begin_359 (fun H locs hB => ?_)
                              refine lv_iload hx hb d7_begin_362 (lv_at hl 1 rfl) ?_
                              exact se_i C0 hB (by rw [if_neg c_1, if_neg c_3, if_neg c_4, if_pos c_7, if_neg c_9, if_neg c_94, if_neg c_179, if_pos c_218, if_neg c_220, if_pos c_221, if_neg c_223, if_pos c_247, if_neg c_248, if_neg c_253] at hO; exact hO) d7_begin_364
                        · refine lv_bipush (v := (-7)) hx hb d7_begin_245 (by decide) ?_
                          refine lv_goto (tgt := 283) hx hb d7_begin_247 (by decide) ?_
                          refine lv_istore (lv' := [(6, .int (-7)), (7, .int x2), (5, .int 1), (4, .int (A 35 0 (x2.toNatClampNeg))), (3, .int 1), (0, .ref (ad 20 0)), (1, .int x1), (2, .int x2)]) hx hb d7_begin_283 hl (by decide) rfl (fun ls hl => ?_)
                          refine lv_iload hx hb d7_begin_285 (lv_at hl 0 rfl) ?_
                          refine lv_if_ge (tgt := 293) hx hb d7_begin_287 (by decide) (fun c => absurd c (by decide)) (fun _ => ?_)
                          refine lv_iload hx hb d7_begin_290 (lv_at hl 0 rfl) ?_
                          exact se_i C0 hB (by rw [if_neg c_1, if_neg c_3, if_neg c_4, if_pos c_7, if_neg c_9, if_neg c_94, if_neg c_179, if_pos c_218, if_neg c_220, if_pos c_221, if_neg c_223, if_neg c_247] at hO; exact hO) d7_begin_292
                    · refine lv_bipush (v := (-4)) hx hb d7_begin_160 (by decide) ?_
                      refine lv_goto (tgt := 166) hx hb d7_begin_162 (by decide) ?_
                      refine lv_istore (lv' := [(6, .int (-4)), (5, .int 1), (4, .int (A 35 0 (x2.toNatClampNeg))), (3, .int 1), (0, .ref (ad 20 0)), (1, .int x1), (2, .int x2)]) hx hb d7_begin_166 hl (by decide) rfl (fun ls hl => ?_)
                      refine lv_iload hx hb d7_begin_168 (lv_at hl 0 rfl) ?_
                      refine lv_if_ne (tgt := 198) hx hb d7_begin_170 (by decide) (fun _ => ?_) (fun c => absurd c (by decide))
                      refine lv_iload hx hb d7_begin_198 (lv_at hl 0 rfl) ?_
                      refine lv_if_ne (tgt := 219) hx hb d7_begin_200 (by decide) (fun _ => ?_) (fun c => absurd c (by decide))
                      refine lv_iload_n hx hb d7_begin_219 rfl (lv_at hl 5 rfl) ?_
                      refine lv_if_ne (tgt := 232) hx hb d7_begin_220 (by decide) (fun _ => ?_) (fun c => absurd c c_3)
                      refine lv_iload_n hx hb d7_begin_232 rfl (lv_at hl 6 rfl) ?_
                      refine lv_istore (lv' := [(7, .int x2), (6, .int (-4)), (5, .int 1), (4, .int (A 35 0 (x2.toNatClampNeg))), (3, .int 1), (0, .ref (ad 20 0)), (1, .int x1), (2, .int x2)]) hx hb d7_begin_233 hl (by decide) rfl (fun ls hl => ?_)
                      refine lv_iload hx hb d7_begin_235 (lv_at hl 1 rfl) ?_
                      refine lv_if_ne (tgt := 285) hx hb d7_begin_237 (by decide) (fun _ => ?_) (fun c => absurd c (by decide))
                      refine lv_iload hx hb d7_begin_285 (lv_at hl 1 rfl) ?_
                      refine lv_if_ge (tgt := 293) hx hb d7_begin_287 (by decide) (fun c => absurd c (by decide)) (fun _ => ?_)
                      refine lv_iload hx hb d7_begin_290 (lv_at hl 1 rfl) ?_
                      exact se_i C0 hB (by rw [if_neg c_1, if_neg c_3, if_neg c_4, if_pos c_7, if_neg c_9, if_neg c_94, if_neg c_179, if_pos c_218, if_neg c_220, if_neg c_221] at hO; exact hO) d7_begin_292
                  · refine lv_bipush (v := (-3)) hx hb d7_begin_148 (by decide) ?_
                    refine lv_goto (tgt := 166) hx hb d7_begin_150 (by decide) ?_
                    refine lv_istore (lv' := [(6, .int (-3)), (5, .int 1), (4, .int (A 35 0 (x2.toNatClampNeg))), (3, .int 1), (0, .ref (ad 20 0)), (1, .int x1), (2, .int x2)]) hx hb d7_begin_166 hl (by decide) rfl (fun ls hl => ?_)
                    refine lv_iload hx hb d7_begin_168 (lv_at hl 0 rfl) ?_
                    refine lv_if_ne (tgt := 198) hx hb d7_begin_170 (by decide) (fun _ => ?_) (fun c => absurd c (by decide))
                    refine lv_iload hx hb d7_begin_198 (lv_at hl 0 rfl) ?_
                    refine lv_if_ne (tgt := 219) hx hb d7_begin_200 (by decide) (fun _ => ?_) (fun c => absurd c (by decide))
                    refine lv_iload_n hx hb d7_begin_219 rfl (lv_at hl 5 rfl) ?_
                    refine lv_if_ne (tgt := 232) hx hb d7_begin_220 (by decide) (fun _ => ?_) (fun c => absurd c c_3)
                    refine lv_iload_n hx hb d7_begin_232 rfl (lv_at hl 6 rfl) ?_
                    refine lv_istore (lv' := [(7, .int x2), (6, .int (-3)), (5, .int 1), (4, .int (A 35 0 (x2.toNatClampNeg))), (3, .int 1), (0, .ref (ad 20 0)), (1, .int x1), (2, .int x2)]) hx hb d7_begin_233 hl (by decide) rfl (fun ls hl => ?_)
                    refine lv_iload hx hb d7_begin_235 (lv_at hl 1 rfl) ?_
                    refine lv_if_ne (tgt := 285) hx hb d7_begin_237 (by decide) (fun _ => ?_) (fun c => absurd c (by decide))
                    refine lv_iload hx hb d7_begin_285 (lv_at hl 1 rfl) ?_
                    refine lv_if_ge (tgt := 293) hx hb d7_begin_287 (by decide) (fun c => absurd c (by decide)) (fun _ => ?_)
                    refine lv_iload hx hb d7_begin_290 (lv_at hl 1 rfl) ?_
                    exact se_i C0 hB (by rw [if_neg c_1, if_neg c_3, if_neg c_4, if_pos c_7, if_neg c_9, if_neg c_94, if_neg c_179, if_pos c_218, if_pos c_220] at hO; exact hO) d7_begin_292
                · refine lv_bipush (v := (-2)) hx hb d7_begin_112 (by decide) ?_
                  refine lv_goto (tgt := 166) hx hb d7_begin_114 (by decide) ?_
                  refine lv_istore (lv' := [(6, .int (-2)), (5, .int 1), (4, .int (A 35 0 (x2.toNatClampNeg))), (3, .int 1), (0, .ref (ad 20 0)), (1, .int x1), (2, .int x2)]) hx hb d7_begin_166 hl (by decide) rfl (fun ls hl => ?_)
                  refine lv_iload hx hb d7_begin_168 (lv_at hl 0 rfl) ?_
                  refine lv_if_ne (tgt := 198) hx hb d7_begin_170 (by decide) (fun _ => ?_) (fun c => absurd c (by decide))
                  refine lv_iload hx hb d7_begin_198 (lv_at hl 0 rfl) ?_
                  refine lv_if_ne (tgt := 219) hx hb d7_begin_200 (by decide) (fun _ => ?_) (fun c => absurd c (by decide))
                  refine lv_iload_n hx hb d7_begin_219 rfl (lv_at hl 5 rfl) ?_
                  refine lv_if_ne (tgt := 232) hx hb d7_begin_220 (by decide) (fun _ => ?_) (fun c => absurd c c_3)
                  refine lv_iload_n hx hb d7_begin_232 rfl (lv_at hl 6 rfl) ?_
                  refine lv_istore (lv' := [(7, .int x2), (6, .int (-2)), (5, .int 1), (4, .int (A 35 0 (x2.toNatClampNeg))), (3, .int 1), (0, .ref (ad 20 0)), (1, .int x1), (2, .int x2)]) hx hb d7_begin_233 hl (by decide) rfl (fun ls hl => ?_)
                  refine lv_iload hx hb d7_begin_235 (lv_at hl 1 rfl) ?_
                  refine lv_if_ne (tgt := 285) hx hb d7_begin_237 (by decide) (fun _ => ?_) (fun c => absurd c (by decide))
                  refine lv_iload hx hb d7_begin_285 (lv_at hl 1 rfl) ?_
                  refine lv_if_ge (tgt := 293) hx hb d7_begin_287 (by decide) (fun c => absurd c (by decide)) (fun _ => ?_)
                  refine lv_iload hx hb d7_begin_290 (lv_at hl 1 rfl) ?_
                  exact se_i C0 hB (by rw [if_neg c_1, if_neg c_3, if_neg c_4, if_pos c_7, if_neg c_9, if_neg c_94, if_neg c_179, if_neg c_218] at hO; exact hO) d7_begin_292
        · refine lv_aload_n hx hb d7_begin_46 rfl (lv_at hl 1 rfl) ?_
          refine sr_get (v := .ref (ad 35 0)) hx hb hw hown hK hB 14 (hX 20 (by decide)) cf_20 us7 (by decide) fl_7_45 (rfl) d7_begin_47 ?_
          refine lv_iload_n hx hb d7_begin_50 rfl (lv_at hl 3 rfl) ?_
          refine sr_iald (v := A 35 0 (x2.toNatClampNeg)) hx hb hK hB (hX 35 (by decide)) rfl rfl (by (refine vp_in_iff.mpr ?_); (show 0 ≤ x2.toInt ∧ x2.toInt < ((64 : Nat) : Int)); (have a1 := sub1_i (x := S 20 0 20) (by omega)); (have kc_4 := hasBin_t c_4);  omega) d7_begin_51 (rfl) ?_
          refine lv_if_ge (tgt := 57) hx hb d7_begin_52 (by decide) (fun c_271 => ?_) (fun c_271 => ?_)
          · refine lv_iload_n hx hb d7_begin_57 rfl (lv_at hl 2 rfl) ?_
            refine lv_if_ne (tgt := 70) hx hb d7_begin_58 (by decide) (fun _ => ?_) (fun c => absurd c c_3)
            refine lv_aload_n hx hb d7_begin_70 rfl (lv_at hl 1 rfl) ?_
            refine sr_get (v := .ref (ad 35 0)) hx hb hw hown hK hB 14 (hX 20 (by decide)) cf_20 us7 (by decide) fl_7_45 (rfl) d7_begin_71 ?_
            refine lv_iload_n hx hb d7_begin_74 rfl (lv_at hl 3 rfl) ?_
            refine sr_iald (v := A 35 0 (x2.toNatClampNeg)) hx hb hK hB (hX 35 (by decide)) rfl rfl (by (refine vp_in_iff.mpr ?_); (show 0 ≤ x2.toInt ∧ x2.toInt < ((64 : Nat) : Int)); (have a1 := sub1_i (x := S 20 0 20) (by omega)); (have kc_4 := hasBin_t c_4);  omega) d7_begin_75 (rfl) ?_
            refine lv_istore (lv' := [(4, .int (A 35 0 (x2.toNatClampNeg))), (3, .int 1), (0, .ref (ad 20 0)), (1, .int x1), (2, .int x2)]) hx hb d7_begin_76 hl (by decide) rfl (fun ls hl => ?_)
            refine lv_iload hx hb d7_begin_78 (lv_at hl 0 rfl) ?_
            refine lv_if_lt (tgt := 102) hx hb d7_begin_80 (by decide) (fun c => absurd c (Int32.not_lt.mpr c_271)) (fun _ => ?_)
            refine lv_aload_n hx hb d7_begin_83 rfl (lv_at hl 2 rfl) ?_
            refine sr_get (v := .ref (ad 32 0)) hx hb hw hown hK hB 11 (hX 20 (by decide)) cf_20 us7 (by decide) fl_7_36 (rfl) d7_begin_84 ?_
            refine lv_iload hx hb d7_begin_87 (lv_at hl 0 rfl) ?_
            refine sr_zald (v := A 32 0 ((A 35 0 (x2.toNatClampNeg)).toNatClampNeg)) hx hb hK hB (hX 32 (by decide)) rfl rfl (by (refine vp_in_iff.mpr ?_); (show 0 ≤ (A 35 0 (x2.toNatClampNeg)).toInt ∧ (A 35 0 (x2.toNatClampNeg)).toInt < ((32 : Nat) : Int)); (have a1 := sub1_i (x := S 20 0 20) (by omega)); (have kc_4 := hasBin_t c_4); (have kc_271 := le_i c_271); (have l0 : (0 : Int32).toInt = 0 := rfl); (have l35 : (35 : Int32).toInt = 35 := rfl); (have qi := at_i hit (x := x2) (by omega));  omega) d7_begin_89 (rfl) ?_
            refine lv_if_eq (tgt := 102) hx hb d7_begin_90 (by decide) (fun c_274 => ?_) (fun c_274 => ?_)
            · refine lv_iconst (v := 0) hx hb d7_begin_102 (by decide) ?_
              refine lv_istore (lv' := [(5, .int 0), (4, .int (A 35 0 (x2.toNatClampNeg))), (3, .int 1), (0, .ref (ad 20 0)), (1, .int x1), (2, .int x2)]) hx hb d7_begin_103 hl (by decide) rfl (fun ls hl => ?_)
              refine lv_aload_n hx hb d7_begin_105 rfl (lv_at hl 3 rfl) ?_
              refine sr_get (v := .int (S 20 0 6)) hx hb hw hown hK hB 6 (hX 20 (by decide)) cf_20 us7 (by decide) fl_7_26 (rfl) d7_begin_106 ?_
              refine lv_if_ge (tgt := 117) hx hb d7_begin_109 (by decide) (fun c_275 => ?_) (fun c_275 => ?_)
              · refine lv_iload_n hx hb d7_begin_117 rfl (lv_at hl 4 rfl) ?_
                refine lv_iconst (v := 1) hx hb d7_begin_118 (by decide) ?_
                refine lv_icmp_ne (tgt := 135) hx hb d7_begin_119 (by decide) (fun c_276 => ?_) (fun c_276 => ?_)
                · refine lv_aload_n hx hb d7_begin_135 rfl (lv_at hl 3 rfl) ?_
                  refine sr_get (v := .ref (ad 23 0)) hx hb hw hown hK hB 2 (hX 20 (by decide)) cf_20 us7 (by decide) fl_7_13 (rfl) d7_begin_136 ?_
                  refine lv_aload_n hx hb d7_begin_139 rfl (lv_at hl 3 rfl) ?_
                  refine sr_get (v := .int (S 20 0 6)) hx hb hw hown hK hB 6 (hX 20 (by decide)) cf_20 us7 (by decide) fl_7_26 (rfl) d7_begin_140 ?_
                  refine sr_iald (v := A 23 0 ((S 20 0 6).toNatClampNeg)) hx hb hK hB (hX 23 (by decide)) rfl rfl (by (refine vp_in_iff.mpr ?_); (show 0 ≤ (S 20 0 6).toInt ∧ (S 20 0 6).toInt < ((16 : Nat) : Int)); (have a1 := sub1_i (x := S 20 0 20) (by omega)); (have kc_4 := hasBin_t c_4); (have kc_275 := le_i c_275); (have l0 : (0 : Int32).toInt = 0 := rfl); (have l20 : (20 : Int32).toInt = 20 := rfl); (have l6 : (6 : Int32).toInt = 6 := rfl);  omega) d7_begin_143 (rfl) ?_
                  refine lv_iconst (v := 2) hx hb d7_begin_144 (by decide) ?_
                  refine lv_icmp_ne (tgt := 153) hx hb d7_begin_145 (by decide) (fun c_277 => ?_) (fun c_277 => ?_)
                  · refine lv_aload_n hx hb d7_begin_153 rfl (lv_at hl 3 rfl) ?_
                    refine sr_get (v := .int (S 20 0 27)) hx hb hw hown hK hB 27 (hX 20 (by decide)) cf_20 us7 (by decide) fl_7_81 (rfl) d7_begin_154 ?_
                    refine lv_if_lt (tgt := 165) hx hb d7_begin_157 (by decide) (fun c_278 => ?_) (fun c_278 => ?_)
                    · refine lv_iconst (v := 0) hx hb d7_begin_165 (by decide) ?_
                      refine lv_istore (lv' := [(6, .int 0), (5, .int 0), (4, .int (A 35 0 (x2.toNatClampNeg))), (3, .int 1), (0, .ref (ad 20 0)), (1, .int x1), (2, .int x2)]) hx hb d7_begin_166 hl (by decide) rfl (fun ls hl => ?_)
                      refine lv_iload hx hb d7_begin_168 (lv_at hl 0 rfl) ?_
                      refine lv_if_ne (tgt := 198) hx hb d7_begin_170 (by decide) (fun c => absurd (by decide) c) (fun _ => ?_)
                      refine lv_iload_n hx hb d7_begin_173 rfl (lv_at hl 5 rfl) ?_
                      refine lv_iconst (v := 3) hx hb d7_begin_174 (by decide) ?_
                      refine lv_icmp_eq (tgt := 187) hx hb d7_begin_175 (by decide) (fun c_280 => ?_) (fun c_280 => ?_)
                      · refine lv_aload_n hx hb d7_begin_187 rfl (lv_at hl 4 rfl) ?_
                        refine sr_vp C0 hB (m7_isWatched hX  ) (hX 20 (by decide)) cf_20 ml_7_143 im_7_isWatched se_7_isWatched in_7 cd_7_isWatched hd7_isWatched ⟨⟨rfl, rfl⟩, by decide, by decide⟩ ⟨Nat.zero_le _, Nat.zero_le _⟩ hl.1 rfl (Nat.le_of_ble_eq_true rfl) d7_begin_188 ?_
                        refine lv_if_ne (tgt := 198) hx hb d7_begin_191 (by decide) (fun c_281 => ?_) (fun c_281 => ?_)
                        · refine lv_iload hx hb d7_begin_198 (lv_at hl 0 rfl) ?_
                          refine lv_if_ne (tgt := 219) hx hb d7_begin_200 (by decide) (fun c => absurd (by decide) c) (fun _ => ?_)
                          refine lv_iload_n hx hb d7_begin_203 rfl (lv_at hl 5 rfl) ?_
                          refine lv_if_ne (tgt := 219) hx hb d7_begin_204 (by decide) (fun _ => ?_) (fun c => absurd c c_3)
                          refine lv_iload_n hx hb d7_begin_219 rfl (lv_at hl 5 rfl) ?_
                          refine lv_if_ne (tgt := 232) hx hb d7_begin_220 (by decide) (fun _ => ?_) (fun c => absurd c c_3)
                          refine lv_iload_n hx hb d7_begin_232 rfl (lv_at hl 6 rfl) ?_
                          refine lv_istore (lv' := [(7, .int x2), (6, .int 0), (5, .int 0), (4, .int (A 35 0 (x2.toNatClampNeg))), (3, .int 1), (0, .ref (ad 20 0)), (1, .int x1), (2, .int x2)]) hx hb d7_begin_233 hl (by decide) rfl (fun ls hl => ?_)
                          refine lv_iload hx hb d7_begin_235 (lv_at hl 1 rfl) ?_
                          refine lv_if_ne (tgt := 285) hx hb d7_begin_237 (by decide) (fun c => absurd (by decide) c) (fun _ => ?_)
                          refine lv_iload hx hb d7_begin_240 (lv_at hl 0 rfl) ?_
                          refine lv_if_ge (tgt := 250) hx hb d7_begin_242 (by decide) (fun c_286 => ?_) (fun c_286 => ?_)
                          · refine lv_aload_n hx hb d7_begin_250 rfl (lv_at hl 5 rfl) ?_
                            refine sr_get (v := .int (S 20 0 34)) hx hb hw hown hK hB 34 (hX 20 (by decide)) cf_20 us7 (by decide) fl_7_130 (rfl) d7_begin_251 ?_
                            refine lv_sipush (v := 290) hx hb d7_begin_254 (by decide) ?_
                            refine lv_icmp_ge (tgt := 277) hx hb d7_begin_257 (by decide) (fun c_287 => ?_) (fun c_287 => ?_)
                            · refine lv_bipush (v := (-8)) hx hb d7_begin_277 (by decide) ?_
                              refine lv_goto (tgt := 283) hx hb d7_begin_279 (by decide) ?_
                              refine lv_istore (lv' := [(6, .int (-8)), (7, .int x2), (5, .int 0), (4, .int (A 35 0 (x2.toNatClampNeg))), (3, .int 1), (0, .ref (ad 20 0)), (1, .int x1), (2, .int x2)]) hx hb d7_begin_283 hl (by decide) rfl (fun ls hl => ?_)
                              refine lv_iload hx hb d7_begin_285 (lv_at hl 0 rfl) ?_
                              refine lv_if_ge (tgt := 293) hx hb d7_begin_287 (by decide) (fun c => absurd c (by decide)) (fun _ => ?_)
                              refine lv_iload hx hb d7_begin_290 (lv_at hl 0 rfl) ?_
                              exact se_i C0 hB (by rw [if_neg c_1, if_neg c_3, if_neg c_4, if_neg c_7, if_pos c_271, if_pos c_274, if_pos c_275, if_neg c_276, if_neg c_277, if_pos c_278, if_pos c_280, if_neg c_281, if_pos c_286, if_pos c_287] at hO; exact hO) d7_begin_292
                            · refine lv_iload_n hx hb d7_begin_260 rfl (lv_at hl 6 rfl) ?_
                              refine lv_iconst (v := 1) hx hb d7_begin_261 (by decide) ?_
                              refine lv_icmp_ne (tgt := 282) hx hb d7_begin_262 (by decide) (fun _ => ?_) (fun c => absurd c c_276)
                              refine lv_iconst (v := 0) hx hb d7_begin_282 (by decide) ?_
                              refine lv_istore (lv' := [(6, .int 0), (7, .int x2), (5, .int 0), (4, .int (A 35 0 (x2.toNatClampNeg))), (3, .int 1), (0, .ref (ad 20 0)), (1, .int x1), (2, .int x2)]) hx hb d7_begin_283 hl (by decide) rfl (fun ls hl => ?_)
                              refine lv_iload hx hb d7_begin_285 (lv_at hl 0 rfl) ?_
                              refine lv_if_ge (tgt := 293) hx hb d7_begin_287 (by decide) (fun _ => ?_) (fun c => absurd (by decide) c)
                              refine lv_aload_n hx hb d7_begin_293 rfl (lv_at hl 5 rfl) ?_
                              refine lv_iload_n hx hb d7_begin_294 rfl (lv_at hl 6 rfl) ?_
                              refine sr_put hx hb hw hown hK hB 27 (hX 20 (by decide)) cf_20 us7 tk7 nm7 (by decide) fl_7_81 rfl rfl rfl rfl d7_begin_295 (fun H locs hB => ?_)
                              refine lv_aload_n hx hb d7_begin_298 rfl (lv_at hl 5 rfl) ?_
                              refine lv_iload hx hb d7_begin_299 (lv_at hl 1 rfl) ?_
                              refine sr_put hx hb hw hown hK hB 28 (hX 20 (by decide)) cf_20 us7 tk7 nm7 (by decide) fl_7_153 rfl rfl rfl rfl d7_begin_301 (fun H locs hB => ?_)
                              refine lv_aload_n hx hb d7_begin_304 rfl (lv_at hl 5 rfl) ?_
                              refine lv_iload_n hx hb d7_begin_305 rfl (lv_at hl 6 rfl) ?_
                              refine lv_if_ne (tgt := 313) hx hb d7_begin_306 (by decide) (fun _ => ?_) (fun c => absurd c c_3)
                              refine lv_iconst (v := (-1)) hx hb d7_begin_313 (by decide) ?_
                              refine sr_put hx hb hw hown hK hB 29 (hX 20 (by decide)) cf_20 us7 tk7 nm7 (by decide) fl_7_124 rfl rfl rfl rfl d7_begin_314 (fun H locs hB => ?_)
                              refine lv_aload_n hx hb d7_begin_317 rfl (lv_at hl 5 rfl) ?_
                              refine lv_aload_n hx hb d7_begin_318 rfl (lv_at hl 5 rfl) ?_
                              refine sr_get (v := .int (S 20 0 0)) hx hb hw hown hK hB 0 (hX 20 (by decide)) cf_20 us7 (by decide) fl_7_100 (rfl) d7_begin_319 ?_
                              refine sr_put hx hb hw hown hK hB 30 (hX 20 (by decide)) cf_20 us7 tk7 nm7 (by decide) fl_7_156 rfl rfl rfl rfl d7_begin_322 (fun H locs hB => ?_)
                              refine lv_aload_n hx hb d7_begin_325 rfl (lv_at hl 5 rfl) ?_
                              refine lv_iload_n hx hb d7_begin_326 rfl (lv_at hl 6 rfl) ?_
                              refine lv_iconst (v := 2) hx hb d7_begin_327 (by decide) ?_
                              refine lv_icmp_eq (tgt := 336) hx hb d7_begin_328 (by decide) (fun c => absurd c (by rw [c_280]; decide)) (fun _ => ?_)
                              refine lv_iload hx hb d7_begin_331 (lv_at hl 2 rfl) ?_
                              refine lv_if_eq (tgt := 340) hx hb d7_begin_333 (by decide) (fun _ => ?_) (fun c => absurd (by decide) c)
                              refine lv_iconst (v := 0) hx hb d7_begin_340 (by decide) ?_
                              refine sr_put hx hb hw hown hK hB 31 (hX 20 (by decide)) cf_20 us7 tk7 nm7 (by decide) fl_7_159 rfl rfl rfl rfl d7_begin_341 (fun H locs hB => ?_)
                              refine lv_aload_n hx hb d7_begin_344 rfl (lv_at hl 5 rfl) ?_
                              refine lv_iconst (v := 0) hx hb d7_begin_345 (by decide) ?_
                              refine sr_put hx hb hw hown hK hB 32 (hX 20 (by decide)) cf_20 us7 tk7 nm7 (by decide) fl_7_163 rfl rfl rfl rfl d7_begin_346 (fun H locs hB => ?_)
                              refine lv_aload_n hx hb d7_begin_349 rfl (lv_at hl 5 rfl) ?_
                              refine lv_iconst (v := 0) hx hb d7_begin_350 (by decide) ?_
                              refine sr_put hx hb hw hown hK hB 33 (hX 20 (by decide)) cf_20 us7 tk7 nm7 (by decide) fl_7_166 rfl rfl rfl rfl d7_begin_351 (fun H locs hB => ?_)
                              refine lv_aload_n hx hb d7_begin_354 rfl (lv_at hl 5 rfl) ?_
                              refine lv_aload_n hx hb d7_begin_355 rfl (lv_at hl 5 rfl) ?_
                              refine sr_get (v := .int (S 20 0 0)) hx hb hw hown hK hB 0 (hX 20 (by decide)) cf_20 us7 (by decide) fl_7_100 (rfl) d7_begin_356 ?_
                              refine sr_put hx hb hw hown hK hB 7 (hX 20 (by decide)) cf_20 us7 tk7 nm7 (by decide) fl_7_114 rfl rfl rfl rfl d7_begin_359 (fun H locs hB => ?_)
                              refine lv_iload hx hb d7_begin_362 (lv_at hl 1 rfl) ?_
                              exact se_i C0 hB (by rw [if_neg c_1, if_neg c_3, if_neg c_4, if_neg c_7, if_pos c_271, if_pos c_274, if_pos c_275, if_neg c_276, if_neg c_277, if_pos c_278, if_pos c_280, if_neg c_281, if_pos c_286, if_neg c_287] at hO; exact hO) d7_begin_364
                          · refine lv_bipush (v := (-7)) hx hb d7_begin_245 (by decide) ?_
                            refine lv_goto (tgt := 283) hx hb d7_begin_247 (by decide) ?_
                            refine lv_istore (lv' := [(6, .int (-7)), (7, .int x2), (5, .int 0), (4, .int (A 35 0 (x2.toNatClampNeg))), (3, .int 1), (0, .ref (ad 20 0)), (1, .int x1), (2, .int x2)]) hx hb d7_begin_283 hl (by decide) rfl (fun ls hl => ?_)
                            refine lv_iload hx hb d7_begin_285 (lv_at hl 0 rfl) ?_
                            refine lv_if_ge (tgt := 293) hx hb d7_begin_287 (by decide) (fun c => absurd c (by decide)) (fun _ => ?_)
                            refine lv_iload hx hb d7_begin_290 (lv_at hl 0 rfl) ?_
                            exact se_i C0 hB (by rw [if_neg c_1, if_neg c_3, if_neg c_4, if_neg c_7, if_pos c_271, if_pos c_274, if_pos c_275, if_neg c_276, if_neg c_277, if_pos c_278, if_pos c_280, if_neg c_281, if_neg c_286] at hO; exact hO) d7_begin_292
                        · refine lv_bipush (v := (-5)) hx hb d7_begin_194 (by decide) ?_
                          refine lv_istore (lv' := [(6, .int (-5)), (5, .int 0), (4, .int (A 35 0 (x2.toNatClampNeg))), (3, .int 1), (0, .ref (ad 20 0)), (1, .int x1), (2, .int x2)]) hx hb d7_begin_196 hl (by decide) rfl (fun ls hl => ?_)
                          refine lv_iload hx hb d7_begin_198 (lv_at hl 0 rfl) ?_
                          refine lv_if_ne (tgt := 219) hx hb d7_begin_200 (by decide) (fun _ => ?_) (fun c => absurd c (by decide))
                          refine lv_iload_n hx hb d7_begin_219 rfl (lv_at hl 5 rfl) ?_
                          refine lv_if_ne (tgt := 232) hx hb d7_begin_220 (by decide) (fun _ => ?_) (fun c => absurd c c_3)
                          refine lv_iload_n hx hb d7_begin_232 rfl (lv_at hl 6 rfl) ?_
                          refine lv_istore (lv' := [(7, .int x2), (6, .int (-5)), (5, .int 0), (4, .int (A 35 0 (x2.toNatClampNeg))), (3, .int 1), (0, .ref (ad 20 0)), (1, .int x1), (2, .int x2)]) hx hb d7_begin_233 hl (by decide) rfl (fun ls hl => ?_)
                          refine lv_iload hx hb d7_begin_235 (lv_at hl 1 rfl) ?_
                          refine lv_if_ne (tgt := 285) hx hb d7_begin_237 (by decide) (fun _ => ?_) (fun c => absurd c (by decide))
                          refine lv_iload hx hb d7_begin_285 (lv_at hl 1 rfl) ?_
                          refine lv_if_ge (tgt := 293) hx hb d7_begin_287 (by decide) (fun c => absurd c (by decide)) (fun _ => ?_)
                          refine lv_iload hx hb d7_begin_290 (lv_at hl 1 rfl) ?_
                          exact se_i C0 hB (by rw [if_neg c_1, if_neg c_3, if_neg c_4, if_neg c_7, if_pos c_271, if_pos c_274, if_pos c_275, if_neg c_276, if_neg c_277, if_pos c_278, if_pos c_280, if_pos c_281] at hO; exact hO) d7_begin_292
                      · refine lv_iload_n hx hb d7_begin_178 rfl (lv_at hl 5 rfl) ?_
                        refine lv_if_ne (tgt := 198) hx hb d7_begin_179 (by decide) (fun _ => ?_) (fun c => absurd c c_3)
                        refine lv_iload hx hb d7_begin_198 (lv_at hl 0 rfl) ?_
                        refine lv_if_ne (tgt := 219) hx hb d7_begin_200 (by decide) (fun c => absurd (by decide) c) (fun _ => ?_)
                        refine lv_iload_n hx hb d7_begin_203 rfl (lv_at hl 5 rfl) ?_
                        refine lv_if_ne (tgt := 219) hx hb d7_begin_204 (by decide) (fun _ => ?_) (fun c => absurd c c_3)
                        refine lv_iload_n hx hb d7_begin_219 rfl (lv_at hl 5 rfl) ?_
                        refine lv_if_ne (tgt := 232) hx hb d7_begin_220 (by decide) (fun _ => ?_) (fun c => absurd c c_3)
                        refine lv_iload_n hx hb d7_begin_232 rfl (lv_at hl 6 rfl) ?_
                        refine lv_istore (lv' := [(7, .int x2), (6, .int 0), (5, .int 0), (4, .int (A 35 0 (x2.toNatClampNeg))), (3, .int 1), (0, .ref (ad 20 0)), (1, .int x1), (2, .int x2)]) hx hb d7_begin_233 hl (by decide) rfl (fun ls hl => ?_)
                        refine lv_iload hx hb d7_begin_235 (lv_at hl 1 rfl) ?_
                        refine lv_if_ne (tgt := 285) hx hb d7_begin_237 (by decide) (fun c => absurd (by decide) c) (fun _ => ?_)
                        refine lv_iload hx hb d7_begin_240 (lv_at hl 0 rfl) ?_
                        refine lv_if_ge (tgt := 250) hx hb d7_begin_242 (by decide) (fun c_304 => ?_) (fun c_304 => ?_)
                        · refine lv_aload_n hx hb d7_begin_250 rfl (lv_at hl 5 rfl) ?_
                          refine sr_get (v := .int (S 20 0 34)) hx hb hw hown hK hB 34 (hX 20 (by decide)) cf_20 us7 (by decide) fl_7_130 (rfl) d7_begin_251 ?_
                          refine lv_sipush (v := 290) hx hb d7_begin_254 (by decide) ?_
                          refine lv_icmp_ge (tgt := 277) hx hb d7_begin_257 (by decide) (fun c_305 => ?_) (fun c_305 => ?_)
                          · refine lv_bipush (v := (-8)) hx hb d7_begin_277 (by decide) ?_
                            refine lv_goto (tgt := 283) hx hb d7_begin_279 (by decide) ?_
                            refine lv_istore (lv' := [(6, .int (-8)), (7, .int x2), (5, .int 0), (4, .int (A 35 0 (x2.toNatClampNeg))), (3, .int 1), (0, .ref (ad 20 0)), (1, .int x1), (2, .int x2)]) hx hb d7_begin_283 hl (by decide) rfl (fun ls hl => ?_)
                            refine lv_iload hx hb d7_begin_285 (lv_at hl 0 rfl) ?_
                            refine lv_if_ge (tgt := 293) hx hb d7_begin_287 (by decide) (fun c => absurd c (by decide)) (fun _ => ?_)
                            refine lv_iload hx hb d7_begin_290 (lv_at hl 0 rfl) ?_
                            exact se_i C0 hB (by rw [if_neg c_1, if_neg c_3, if_neg c_4, if_neg c_7, if_pos c_271, if_pos c_274, if_pos c_275, if_neg c_276, if_neg c_277, if_pos c_278, if_neg c_280, if_pos c_304, if_pos c_305] at hO; exact hO) d7_begin_292
                          · refine lv_iload_n hx hb d7_begin_260 rfl (lv_at hl 6 rfl) ?_
                            refine lv_iconst (v := 1) hx hb d7_begin_261 (by decide) ?_
                            refine lv_icmp_ne (tgt := 282) hx hb d7_begin_262 (by decide) (fun _ => ?_) (fun c => absurd c c_276)
                            refine lv_iconst (v := 0) hx hb d7_begin_282 (by decide) ?_
                            refine lv_istore (lv' := [(6, .int 0), (7, .int x2), (5, .int 0), (4, .int (A 35 0 (x2.toNatClampNeg))), (3, .int 1), (0, .ref (ad 20 0)), (1, .int x1), (2, .int x2)]) hx hb d7_begin_283 hl (by decide) rfl (fun ls hl => ?_)
                            refine lv_iload hx hb d7_begin_285 (lv_at hl 0 rfl) ?_
                            refine lv_if_ge (tgt := 293) hx hb d7_begin_287 (by decide) (fun _ => ?_) (fun c => absurd (by decide) c)
                            refine lv_aload_n hx hb d7_begin_293 rfl (lv_at hl 5 rfl) ?_
                            refine lv_iload_n hx hb d7_begin_294 rfl (lv_at hl 6 rfl) ?_
                            refine sr_put hx hb hw hown hK hB 27 (hX 20 (by decide)) cf_20 us7 tk7 nm7 (by decide) fl_7_81 rfl rfl rfl rfl d7_begin_295 (fun H locs hB => ?_)
                            refine lv_aload_n hx hb d7_begin_298 rfl (lv_at hl 5 rfl) ?_
                            refine lv_iload hx hb d7_begin_299 (lv_at hl 1 rfl) ?_
                            refine sr_put hx hb hw hown hK hB 28 (hX 20 (by decide)) cf_20 us7 tk7 nm7 (by decide) fl_7_153 rfl rfl rfl rfl d7_begin_301 (fun H locs hB => ?_)
                            refine lv_aload_n hx hb d7_begin_304 rfl (lv_at hl 5 rfl) ?_
                            refine lv_iload_n hx hb d7_begin_305 rfl (lv_at hl 6 rfl) ?_
                            refine lv_if_ne (tgt := 313) hx hb d7_begin_306 (by decide) (fun _ => ?_) (fun c => absurd c c_3)
                            refine lv_iconst (v := (-1)) hx hb d7_begin_313 (by decide) ?_
                            refine sr_put hx hb hw hown hK hB 29 (hX 20 (by decide)) cf_20 us7 tk7 nm7 (by decide) fl_7_124 rfl rfl rfl rfl d7_begin_314 (fun H locs hB => ?_)
                            refine lv_aload_n hx hb d7_begin_317 rfl (lv_at hl 5 rfl) ?_
                            refine lv_aload_n hx hb d7_begin_318 rfl (lv_at hl 5 rfl) ?_
                            refine sr_get (v := .int (S 20 0 0)) hx hb hw hown hK hB 0 (hX 20 (by decide)) cf_20 us7 (by decide) fl_7_100 (rfl) d7_begin_319 ?_
                            refine sr_put hx hb hw hown hK hB 30 (hX 20 (by decide)) cf_20 us7 tk7 nm7 (by decide) fl_7_156 rfl rfl rfl rfl d7_begin_322 (fun H locs hB => ?_)
                            refine lv_aload_n hx hb d7_begin_325 rfl (lv_at hl 5 rfl) ?_
                            refine lv_iload_n hx hb d7_begin_326 rfl (lv_at hl 6 rfl) ?_
                            refine lv_iconst (v := 2) hx hb d7_begin_327 (by decide) ?_
                            refine lv_icmp_eq (tgt := 336) hx hb d7_begin_328 (by decide) (fun c_310 => ?_) (fun c_310 => ?_)
                            · refine lv_iconst (v := 1) hx hb d7_begin_336 (by decide) ?_
                              refine lv_goto (tgt := 341) hx hb d7_begin_337 (by decide) ?_
                              refine sr_put hx hb hw hown hK hB 31 (hX 20 (by decide)) cf_20 us7 tk7 nm7 (by decide) fl_7_159 rfl rfl rfl rfl d7_begin_341 (fun H locs hB => ?_)
                              refine lv_aload_n hx hb d7_begin_344 rfl (lv_at hl 5 rfl) ?_
                              refine lv_iconst (v := 0) hx hb d7_begin_345 (by decide) ?_
                              refine sr_put hx hb hw hown hK hB 32 (hX 20 (by decide)) cf_20 us7 tk7 nm7 (by decide) fl_7_163 rfl rfl rfl rfl d7_begin_346 (fun H locs hB => ?_)
                              refine lv_aload_n hx hb d7_begin_349 rfl (lv_at hl 5 rfl) ?_
                              refine lv_iconst (v := 0) hx hb d7_begin_350 (by decide) ?_
                              refine sr_put hx hb hw hown hK hB 33 (hX 20 (by decide)) cf_20 us7 tk7 nm7 (by decide) fl_7_166 rfl rfl rfl rfl d7_begin_351 (fun H locs hB => ?_)
                              refine lv_aload_n hx hb d7_begin_354 rfl (lv_at hl 5 rfl) ?_
                              refine lv_aload_n hx hb d7_begin_355 rfl (lv_at hl 5 rfl) ?_
                              refine sr_get (v := .int (S 20 0 0)) hx hb hw hown hK hB 0 (hX 20 (by decide)) cf_20 us7 (by decide) fl_7_100 (rfl) d7_begin_356 ?_
                              refine sr_put hx hb hw hown hK hB 7 (hX 20 (by decide)) cf_20 us7 tk7 nm7 (by decide) fl_7_114 rfl rfl rfl rfl d7_begin_359 (fun H locs hB => ?_)
                              refine lv_iload hx hb d7_begin_362 (lv_at hl 1 rfl) ?_
                              exact se_i C0 hB (by rw [if_neg c_1, if_neg c_3, if_neg c_4, if_neg c_7, if_pos c_271, if_pos c_274, if_pos c_275, if_neg c_276, if_neg c_277, if_pos c_278, if_neg c_280, if_pos c_304, if_neg c_305, if_pos c_310] at hO; exact hO) d7_begin_364
                            · refine lv_iload hx hb d7_begin_331 (lv_at hl 2 rfl) ?_
                              refine lv_if_eq (tgt := 340) hx hb d7_begin_333 (by decide) (fun _ => ?_) (fun c => absurd (by decide) c)
                              refine lv_iconst (v := 0) hx hb d7_begin_340 (by decide) ?_
                              refine sr_put hx hb hw hown hK hB 31 (hX 20 (by decide)) cf_20 us7 tk7 nm7 (by decide) fl_7_159 rfl rfl rfl rfl d7_begin_341 (fun H locs hB => ?_)
                              refine lv_aload_n hx hb d7_begin_344 rfl (lv_at hl 5 rfl) ?_
                              refine lv_iconst (v := 0) hx hb d7_begin_345 (by decide) ?_
                              refine sr_put hx hb hw hown hK hB 32 (hX 20 (by decide)) cf_20 us7 tk7 nm7 (by decide) fl_7_163 rfl rfl rfl rfl d7_begin_346 (fun H locs hB => ?_)
                              refine lv_aload_n hx hb d7_begin_349 rfl (lv_at hl 5 rfl) ?_
                              refine lv_iconst (v := 0) hx hb d7_begin_350 (by decide) ?_
                              refine sr_put hx hb hw hown hK hB 33 (hX 20 (by decide)) cf_20 us7 tk7 nm7 (by decide) fl_7_166 rfl rfl rfl rfl d7_begin_351 (fun H locs hB => ?_)
                              refine lv_aload_n hx hb d7_begin_354 rfl (lv_at hl 5 rfl) ?_
                              refine lv_aload_n hx hb d7_begin_355 rfl (lv_at hl 5 rfl) ?_
                              refine sr_get (v := .int (S 20 0 0)) hx hb hw hown hK hB 0 (hX 20 (by decide)) cf_20 us7 (by decide) fl_7_100 (rfl) d7_begin_356 ?_
                              refine sr_put hx hb hw hown hK hB 7 (hX 20 (by decide)) cf_20 us7 tk7 nm7 (by decide) fl_7_114 rfl rfl rfl rfl d7_begin_359 (fun H locs hB => ?_)
                              refine lv_iload hx hb d7_begin_362 (lv_at hl 1 rfl) ?_
                              exact se_i C0 hB (by rw [if_neg c_1, if_neg c_3, if_neg c_4, if_neg c_7, if_pos c_271, if_pos c_274, if_pos c_275, if_neg c_276, if_neg c_277, if_pos c_278, if_neg c_280, if_pos c_304, if_neg c_305, if_neg c_310] at hO; exact hO) d7_begin_364
                        · refine lv_bipush (v := (-7)) hx hb d7_begin_245 (by decide) ?_
                          refine lv_goto (tgt := 283) hx hb d7_begin_247 (by decide) ?_
                          refine lv_istore (lv' := [(6, .int (-7)), (7, .int x2), (5, .int 0), (4, .int (A 35 0 (x2.toNatClampNeg))), (3, .int 1), (0, .ref (ad 20 0)), (1, .int x1), (2, .int x2)]) hx hb d7_begin_283 hl (by decide) rfl (fun ls hl => ?_)
                          refine lv_iload hx hb d7_begin_285 (lv_at hl 0 rfl) ?_
                          refine lv_if_ge (tgt := 293) hx hb d7_begin_287 (by decide) (fun c => absurd c (by decide)) (fun _ => ?_)
                          refine lv_iload hx hb d7_begin_290 (lv_at hl 0 rfl) ?_
                          exact se_i C0 hB (by rw [if_neg c_1, if_neg c_3, if_neg c_4, if_neg c_7, if_pos c_271, if_pos c_274, if_pos c_275, if_neg c_276, if_neg c_277, if_pos c_278, if_neg c_280, if_neg c_304] at hO; exact hO) d7_begin_292
                    · refine lv_bipush (v := (-4)) hx hb d7_begin_160 (by decide) ?_
                      refine lv_goto (tgt := 166) hx hb d7_begin_162 (by decide) ?_
                      refine lv_istore (lv' := [(6, .int (-4)), (5, .int 0), (4, .int (A 35 0 (x2.toNatClampNeg))), (3, .int 1), (0, .ref (ad 20 0)), (1, .int x1), (2, .int x2)]) hx hb d7_begin_166 hl (by decide) rfl (fun ls hl => ?_)
                      refine lv_iload hx hb d7_begin_168 (lv_at hl 0 rfl) ?_
                      refine lv_if_ne (tgt := 198) hx hb d7_begin_170 (by decide) (fun _ => ?_) (fun c => absurd c (by decide))
                      refine lv_iload hx hb d7_begin_198 (lv_at hl 0 rfl) ?_
                      refine lv_if_ne (tgt := 219) hx hb d7_begin_200 (by decide) (fun _ => ?_) (fun c => absurd c (by decide))
                      refine lv_iload_n hx hb d7_begin_219 rfl (lv_at hl 5 rfl) ?_
                      refine lv_if_ne (tgt := 232) hx hb d7_begin_220 (by decide) (fun _ => ?_) (fun c => absurd c c_3)
                      refine lv_iload_n hx hb d7_begin_232 rfl (lv_at hl 6 rfl) ?_
                      refine lv_istore (lv' := [(7, .int x2), (6, .int (-4)), (5, .int 0), (4, .int (A 35 0 (x2.toNatClampNeg))), (3, .int 1), (0, .ref (ad 20 0)), (1, .int x1), (2, .int x2)]) hx hb d7_begin_233 hl (by decide) rfl (fun ls hl => ?_)
                      refine lv_iload hx hb d7_begin_235 (lv_at hl 1 rfl) ?_
                      refine lv_if_ne (tgt := 285) hx hb d7_begin_237 (by decide) (fun _ => ?_) (fun c => absurd c (by decide))
                      refine lv_iload hx hb d7_begin_285 (lv_at hl 1 rfl) ?_
                      refine lv_if_ge (tgt := 293) hx hb d7_begin_287 (by decide) (fun c => absurd c (by decide)) (fun _ => ?_)
                      refine lv_iload hx hb d7_begin_290 (lv_at hl 1 rfl) ?_
                      exact se_i C0 hB (by rw [if_neg c_1, if_neg c_3, if_neg c_4, if_neg c_7, if_pos c_271, if_pos c_274, if_pos c_275, if_neg c_276, if_neg c_277, if_neg c_278] at hO; exact hO) d7_begin_292
                  · refine lv_bipush (v := (-3)) hx hb d7_begin_148 (by decide) ?_
                    refine lv_goto (tgt := 166) hx hb d7_begin_150 (by decide) ?_
                    refine lv_istore (lv' := [(6, .int (-3)), (5, .int 0), (4, .int (A 35 0 (x2.toNatClampNeg))), (3, .int 1), (0, .ref (ad 20 0)), (1, .int x1), (2, .int x2)]) hx hb d7_begin_166 hl (by decide) rfl (fun ls hl => ?_)
                    refine lv_iload hx hb d7_begin_168 (lv_at hl 0 rfl) ?_
                    refine lv_if_ne (tgt := 198) hx hb d7_begin_170 (by decide) (fun _ => ?_) (fun c => absurd c (by decide))
                    refine lv_iload hx hb d7_begin_198 (lv_at hl 0 rfl) ?_
                    refine lv_if_ne (tgt := 219) hx hb d7_begin_200 (by decide) (fun _ => ?_) (fun c => absurd c (by decide))
                    refine lv_iload_n hx hb d7_begin_219 rfl (lv_at hl 5 rfl) ?_
                    refine lv_if_ne (tgt := 232) hx hb d7_begin_220 (by decide) (fun _ => ?_) (fun c => absurd c c_3)
                    refine lv_iload_n hx hb d7_begin_232 rfl (lv_at hl 6 rfl) ?_
                    refine lv_istore (lv' := [(7, .int x2), (6, .int (-3)), (5, .int 0), (4, .int (A 35 0 (x2.toNatClampNeg))), (3, .int 1), (0, .ref (ad 20 0)), (1, .int x1), (2, .int x2)]) hx hb d7_begin_233 hl (by decide) rfl (fun ls hl => ?_)
                    refine lv_iload hx hb d7_begin_235 (lv_at hl 1 rfl) ?_
                    refine lv_if_ne (tgt := 285) hx hb d7_begin_237 (by decide) (fun _ => ?_) (fun c => absurd c (by decide))
                    refine lv_iload hx hb d7_begin_285 (lv_at hl 1 rfl) ?_
                    refine lv_if_ge (tgt := 293) hx hb d7_begin_287 (by decide) (fun c => absurd c (by decide)) (fun _ => ?_)
                    refine lv_iload hx hb d7_begin_290 (lv_at hl 1 rfl) ?_
                    exact se_i C0 hB (by rw [if_neg c_1, if_neg c_3, if_neg c_4, if_neg c_7, if_pos c_271, if_pos c_274, if_pos c_275, if_neg c_276, if_pos c_277] at hO; exact hO) d7_begin_292
                · refine lv_aload_n hx hb d7_begin_122 rfl (lv_at hl 3 rfl) ?_
                  refine sr_get (v := .ref (ad 23 0)) hx hb hw hown hK hB 2 (hX 20 (by decide)) cf_20 us7 (by decide) fl_7_13 (rfl) d7_begin_123 ?_
                  refine lv_aload_n hx hb d7_begin_126 rfl (lv_at hl 3 rfl) ?_
                  refine sr_get (v := .int (S 20 0 6)) hx hb hw hown hK hB 6 (hX 20 (by decide)) cf_20 us7 (by decide) fl_7_26 (rfl) d7_begin_127 ?_
                  refine sr_iald (v := A 23 0 ((S 20 0 6).toNatClampNeg)) hx hb hK hB (hX 23 (by decide)) rfl rfl (by (refine vp_in_iff.mpr ?_); (show 0 ≤ (S 20 0 6).toInt ∧ (S 20 0 6).toInt < ((16 : Nat) : Int)); (have a1 := sub1_i (x := S 20 0 20) (by omega)); (have kc_4 := hasBin_t c_4); (have kc_275 := le_i c_275); (have l0 : (0 : Int32).toInt = 0 := rfl); (have l20 : (20 : Int32).toInt = 20 := rfl); (have l6 : (6 : Int32).toInt = 6 := rfl);  omega) d7_begin_130 (rfl) ?_
                  refine lv_iconst (v := 1) hx hb d7_begin_131 (by decide) ?_
                  refine lv_icmp_ne (tgt := 148) hx hb d7_begin_132 (by decide) (fun c_323 => ?_) (fun c_323 => ?_)
                  · refine lv_bipush (v := (-3)) hx hb d7_begin_148 (by decide) ?_
                    refine lv_goto (tgt := 166) hx hb d7_begin_150 (by decide) ?_
                    refine lv_istore (lv' := [(6, .int (-3)), (5, .int 0), (4, .int (A 35 0 (x2.toNatClampNeg))), (3, .int 1), (0, .ref (ad 20 0)), (1, .int x1), (2, .int x2)]) hx hb d7_begin_166 hl (by decide) rfl (fun ls hl => ?_)
                    refine lv_iload hx hb d7_begin_168 (lv_at hl 0 rfl) ?_
                    refine lv_if_ne (tgt := 198) hx hb d7_begin_170 (by decide) (fun _ => ?_) (fun c => absurd c (by decide))
                    refine lv_iload hx hb d7_begin_198 (lv_at hl 0 rfl) ?_
                    refine lv_if_ne (tgt := 219) hx hb d7_begin_200 (by decide) (fun _ => ?_) (fun c => absurd c (by decide))
                    refine lv_iload_n hx hb d7_begin_219 rfl (lv_at hl 5 rfl) ?_
                    refine lv_if_ne (tgt := 232) hx hb d7_begin_220 (by decide) (fun _ => ?_) (fun c => absurd c c_3)
                    refine lv_iload_n hx hb d7_begin_232 rfl (lv_at hl 6 rfl) ?_
                    refine lv_istore (lv' := [(7, .int x2), (6, .int (-3)), (5, .int 0), (4, .int (A 35 0 (x2.toNatClampNeg))), (3, .int 1), (0, .ref (ad 20 0)), (1, .int x1), (2, .int x2)]) hx hb d7_begin_233 hl (by decide) rfl (fun ls hl => ?_)
                    refine lv_iload hx hb d7_begin_235 (lv_at hl 1 rfl) ?_
                    refine lv_if_ne (tgt := 285) hx hb d7_begin_237 (by decide) (fun _ => ?_) (fun c => absurd c (by decide))
                    refine lv_iload hx hb d7_begin_285 (lv_at hl 1 rfl) ?_
                    refine lv_if_ge (tgt := 293) hx hb d7_begin_287 (by decide) (fun c => absurd c (by decide)) (fun _ => ?_)
                    refine lv_iload hx hb d7_begin_290 (lv_at hl 1 rfl) ?_
                    exact se_i C0 hB (by rw [if_neg c_1, if_neg c_3, if_neg c_4, if_neg c_7, if_pos c_271, if_pos c_274, if_pos c_275, if_pos c_276, if_neg c_323] at hO; exact hO) d7_begin_292
                  · refine lv_aload_n hx hb d7_begin_135 rfl (lv_at hl 3 rfl) ?_
                    refine sr_get (v := .ref (ad 23 0)) hx hb hw hown hK hB 2 (hX 20 (by decide)) cf_20 us7 (by decide) fl_7_13 (rfl) d7_begin_136 ?_
                    refine lv_aload_n hx hb d7_begin_139 rfl (lv_at hl 3 rfl) ?_
                    refine sr_get (v := .int (S 20 0 6)) hx hb hw hown hK hB 6 (hX 20 (by decide)) cf_20 us7 (by decide) fl_7_26 (rfl) d7_begin_140 ?_
                    refine sr_iald (v := A 23 0 ((S 20 0 6).toNatClampNeg)) hx hb hK hB (hX 23 (by decide)) rfl rfl (by (refine vp_in_iff.mpr ?_); (show 0 ≤ (S 20 0 6).toInt ∧ (S 20 0 6).toInt < ((16 : Nat) : Int)); (have a1 := sub1_i (x := S 20 0 20) (by omega)); (have kc_4 := hasBin_t c_4); (have kc_275 := le_i c_275); (have l0 : (0 : Int32).toInt = 0 := rfl); (have l20 : (20 : Int32).toInt = 20 := rfl); (have l6 : (6 : Int32).toInt = 6 := rfl);  omega) d7_begin_143 (rfl) ?_
                    refine lv_iconst (v := 2) hx hb d7_begin_144 (by decide) ?_
                    refine lv_icmp_ne (tgt := 153) hx hb d7_begin_145 (by decide) (fun _ => ?_) (fun c => absurd c (by rw [c_323]; decide))
                    refine lv_aload_n hx hb d7_begin_153 rfl (lv_at hl 3 rfl) ?_
                    refine sr_get (v := .int (S 20 0 27)) hx hb hw hown hK hB 27 (hX 20 (by decide)) cf_20 us7 (by decide) fl_7_81 (rfl) d7_begin_154 ?_
                    refine lv_if_lt (tgt := 165) hx hb d7_begin_157 (by decide) (fun c_330 => ?_) (fun c_330 => ?_)
                    · refine lv_iconst (v := 0) hx hb d7_begin_165 (by decide) ?_
                      refine lv_istore (lv' := [(6, .int 0), (5, .int 0), (4, .int (A 35 0 (x2.toNatClampNeg))), (3, .int 1), (0, .ref (ad 20 0)), (1, .int x1), (2, .int x2)]) hx hb d7_begin_166 hl (by decide) rfl (fun ls hl => ?_)
                      refine lv_iload hx hb d7_begin_168 (lv_at hl 0 rfl) ?_
                      refine lv_if_ne (tgt := 198) hx hb d7_begin_170 (by decide) (fun c => absurd (by decide) c) (fun _ => ?_)
                      refine lv_iload_n hx hb d7_begin_173 rfl (lv_at hl 5 rfl) ?_
                      refine lv_iconst (v := 3) hx hb d7_begin_174 (by decide) ?_
                      refine lv_icmp_eq (tgt := 187) hx hb d7_begin_175 (by decide) (fun c => absurd c (by rw [c_276]; decide)) (fun _ => ?_)
                      refine lv_iload_n hx hb d7_begin_178 rfl (lv_at hl 5 rfl) ?_
                      refine lv_if_ne (tgt := 198) hx hb d7_begin_179 (by decide) (fun _ => ?_) (fun c => absurd c c_3)
                      refine lv_iload hx hb d7_begin_198 (lv_at hl 0 rfl) ?_
                      refine lv_if_ne (tgt := 219) hx hb d7_begin_200 (by decide) (fun c => absurd (by decide) c) (fun _ => ?_)
                      refine lv_iload_n hx hb d7_begin_203 rfl (lv_at hl 5 rfl) ?_
                      refine lv_if_ne (tgt := 219) hx hb d7_begin_204 (by decide) (fun _ => ?_) (fun c => absurd c c_3)
                      refine lv_iload_n hx hb d7_begin_219 rfl (lv_at hl 5 rfl) ?_
                      refine lv_if_ne (tgt := 232) hx hb d7_begin_220 (by decide) (fun _ => ?_) (fun c => absurd c c_3)
                      refine lv_iload_n hx hb d7_begin_232 rfl (lv_at hl 6 rfl) ?_
                      refine lv_istore (lv' := [(7, .int x2), (6, .int 0), (5, .int 0), (4, .int (A 35 0 (x2.toNatClampNeg))), (3, .int 1), (0, .ref (ad 20 0)), (1, .int x1), (2, .int x2)]) hx hb d7_begin_233 hl (by decide) rfl (fun ls hl => ?_)
                      refine lv_iload hx hb d7_begin_235 (lv_at hl 1 rfl) ?_
                      refine lv_if_ne (tgt := 285) hx hb d7_begin_237 (by decide) (fun c => absurd (by decide) c) (fun _ => ?_)
                      refine lv_iload hx hb d7_begin_240 (lv_at hl 0 rfl) ?_
                      refine lv_if_ge (tgt := 250) hx hb d7_begin_242 (by decide) (fun c_338 => ?_) (fun c_338 => ?_)
                      · refine lv_aload_n hx hb d7_begin_250 rfl (lv_at hl 5 rfl) ?_
                        refine sr_get (v := .int (S 20 0 34)) hx hb hw hown hK hB 34 (hX 20 (by decide)) cf_20 us7 (by decide) fl_7_130 (rfl) d7_begin_251 ?_
                        refine lv_sipush (v := 290) hx hb d7_begin_254 (by decide) ?_
                        refine lv_icmp_ge (tgt := 277) hx hb d7_begin_257 (by decide) (fun c_339 => ?_) (fun c_339 => ?_)
                        · refine lv_bipush (v := (-8)) hx hb d7_begin_277 (by decide) ?_
                          refine lv_goto (tgt := 283) hx hb d7_begin_279 (by decide) ?_
                          refine lv_istore (lv' := [(6, .int (-8)), (7, .int x2), (5, .int 0), (4, .int (A 35 0 (x2.toNatClampNeg))), (3, .int 1), (0, .ref (ad 20 0)), (1, .int x1), (2, .int x2)]) hx hb d7_begin_283 hl (by decide) rfl (fun ls hl => ?_)
                          refine lv_iload hx hb d7_begin_285 (lv_at hl 0 rfl) ?_
                          refine lv_if_ge (tgt := 293) hx hb d7_begin_287 (by decide) (fun c => absurd c (by decide)) (fun _ => ?_)
                          refine lv_iload hx hb d7_begin_290 (lv_at hl 0 rfl) ?_
                          exact se_i C0 hB (by rw [if_neg c_1, if_neg c_3, if_neg c_4, if_neg c_7, if_pos c_271, if_pos c_274, if_pos c_275, if_pos c_276, if_pos c_323, if_pos c_330, if_pos c_338, if_pos c_339] at hO; exact hO) d7_begin_292
                        · refine lv_iload_n hx hb d7_begin_260 rfl (lv_at hl 6 rfl) ?_
                          refine lv_iconst (v := 1) hx hb d7_begin_261 (by decide) ?_
                          refine lv_icmp_ne (tgt := 282) hx hb d7_begin_262 (by decide) (fun c => absurd c_276 c) (fun _ => ?_)
                          refine lv_aload_n hx hb d7_begin_265 rfl (lv_at hl 5 rfl) ?_
                          refine sr_get (v := .ref (ad 36 0)) hx hb hw hown hK hB 15 (hX 20 (by decide)) cf_20 us7 (by decide) fl_7_48 (rfl) d7_begin_266 ?_
                          refine lv_iload hx hb d7_begin_269 (lv_at hl 0 rfl) ?_
                          refine sr_iald (v := A 36 0 (x2.toNatClampNeg)) hx hb hK hB (hX 36 (by decide)) rfl rfl (by (refine vp_in_iff.mpr ?_); (show 0 ≤ x2.toInt ∧ x2.toInt < ((64 : Nat) : Int)); (have a1 := sub1_i (x := S 20 0 20) (by omega)); (have kc_4 := hasBin_t c_4); (have kc_338 := le_i c_338); (have l0 : (0 : Int32).toInt = 0 := rfl);  omega) d7_begin_271 (rfl) ?_
                          refine lv_bipush (v := 6) hx hb d7_begin_272 (by decide) ?_
                          refine lv_icmp_ne (tgt := 282) hx hb d7_begin_274 (by decide) (fun c_342 => ?_) (fun c_342 => ?_)
                          · refine lv_iconst (v := 0) hx hb d7_begin_282 (by decide) ?_
                            refine lv_istore (lv' := [(6, .int 0), (7, .int x2), (5, .int 0), (4, .int (A 35 0 (x2.toNatClampNeg))), (3, .int 1), (0, .ref (ad 20 0)), (1, .int x1), (2, .int x2)]) hx hb d7_begin_283 hl (by decide) rfl (fun ls hl => ?_)
                            refine lv_iload hx hb d7_begin_285 (lv_at hl 0 rfl) ?_
                            refine lv_if_ge (tgt := 293) hx hb d7_begin_287 (by decide) (fun _ => ?_) (fun c => absurd (by decide) c)
                            refine lv_aload_n hx hb d7_begin_293 rfl (lv_at hl 5 rfl) ?_
                            refine lv_iload_n hx hb d7_begin_294 rfl (lv_at hl 6 rfl) ?_
                            refine sr_put hx hb hw hown hK hB 27 (hX 20 (by decide)) cf_20 us7 tk7 nm7 (by decide) fl_7_81 rfl rfl rfl rfl d7_begin_295 (fun H locs hB => ?_)
                            refine lv_aload_n hx hb d7_begin_298 rfl (lv_at hl 5 rfl) ?_
                            refine lv_iload hx hb d7_begin_299 (lv_at hl 1 rfl) ?_
                            refine sr_put hx hb hw hown hK hB 28 (hX 20 (by decide)) cf_20 us7 tk7 nm7 (by decide) fl_7_153 rfl rfl rfl rfl d7_begin_301 (fun H locs hB => ?_)
                            refine lv_aload_n hx hb d7_begin_304 rfl (lv_at hl 5 rfl) ?_
                            refine lv_iload_n hx hb d7_begin_305 rfl (lv_at hl 6 rfl) ?_
                            refine lv_if_ne (tgt := 313) hx hb d7_begin_306 (by decide) (fun _ => ?_) (fun c => absurd c c_3)
                            refine lv_iconst (v := (-1)) hx hb d7_begin_313 (by decide) ?_
                            refine sr_put hx hb hw hown hK hB 29 (hX 20 (by decide)) cf_20 us7 tk7 nm7 (by decide) fl_7_124 rfl rfl rfl rfl d7_begin_314 (fun H locs hB => ?_)
                            refine lv_aload_n hx hb d7_begin_317 rfl (lv_at hl 5 rfl) ?_
                            refine lv_aload_n hx hb d7_begin_318 rfl (lv_at hl 5 rfl) ?_
                            refine sr_get (v := .int (S 20 0 0)) hx hb hw hown hK hB 0 (hX 20 (by decide)) cf_20 us7 (by decide) fl_7_100 (rfl) d7_begin_319 ?_
                            refine sr_put hx hb hw hown hK hB 30 (hX 20 (by decide)) cf_20 us7 tk7 nm7 (by decide) fl_7_156 rfl rfl rfl rfl d7_begin_322 (fun H locs hB => ?_)
                            refine lv_aload_n hx hb d7_begin_325 rfl (lv_at hl 5 rfl) ?_
                            refine lv_iload_n hx hb d7_begin_326 rfl (lv_at hl 6 rfl) ?_
                            refine lv_iconst (v := 2) hx hb d7_begin_327 (by decide) ?_
                            refine lv_icmp_eq (tgt := 336) hx hb d7_begin_328 (by decide) (fun c => absurd c (by rw [c_276]; decide)) (fun _ => ?_)
                            refine lv_iload hx hb d7_begin_331 (lv_at hl 2 rfl) ?_
                            refine lv_if_eq (tgt := 340) hx hb d7_begin_333 (by decide) (fun _ => ?_) (fun c => absurd (by decide) c)
                            refine lv_iconst (v := 0) hx hb d7_begin_340 (by decide) ?_
                            refine sr_put hx hb hw hown hK hB 31 (hX 20 (by decide)) cf_20 us7 tk7 nm7 (by decide) fl_7_159 rfl rfl rfl rfl d7_begin_341 (fun H locs hB => ?_)
                            refine lv_aload_n hx hb d7_begin_344 rfl (lv_at hl 5 rfl) ?_
                            refine lv_iconst (v := 0) hx hb d7_begin_345 (by decide) ?_
                            refine sr_put hx hb hw hown hK hB 32 (hX 20 (by decide)) cf_20 us7 tk7 nm7 (by decide) fl_7_163 rfl rfl rfl rfl d7_begin_346 (fun H locs hB => ?_)
                            refine lv_aload_n hx hb d7_begin_349 rfl (lv_at hl 5 rfl) ?_
                            refine lv_iconst (v := 0) hx hb d7_begin_350 (by decide) ?_
                            refine sr_put hx hb hw hown hK hB 33 (hX 20 (by decide)) cf_20 us7 tk7 nm7 (by decide) fl_7_166 rfl rfl rfl rfl d7_begin_351 (fun H locs hB => ?_)
                            refine lv_aload_n hx hb d7_begin_354 rfl (lv_at hl 5 rfl) ?_
                            refine lv_aload_n hx hb d7_begin_355 rfl (lv_at hl 5 rfl) ?_
                            refine sr_get (v := .int (S 20 0 0)) hx hb hw hown hK hB 0 (hX 20 (by decide)) cf_20 us7 (by decide) fl_7_100 (rfl) d7_begin_356 ?_
                            refine sr_put hx hb hw hown hK hB 7 (hX 20 (by decide)) cf_20 us7 tk7 nm7 (by decide) fl_7_114 rfl rfl rfl rfl d7_begin_359 (fun H locs hB => ?_)
                            refine lv_iload hx hb d7_begin_362 (lv_at hl 1 rfl) ?_
                            exact se_i C0 hB (by rw [if_neg c_1, if_neg c_3, if_neg c_4, if_neg c_7, if_pos c_271, if_pos c_274, if_pos c_275, if_pos c_276, if_pos c_323, if_pos c_330, if_pos c_338, if_neg c_339, if_neg c_342] at hO; exact hO) d7_begin_364
                          · refine lv_bipush (v := (-8)) hx hb d7_begin_277 (by decide) ?_
                            refine lv_goto (tgt := 283) hx hb d7_begin_279 (by decide) ?_
                            refine lv_istore (lv' := [(6, .int (-8)), (7, .int x2), (5, .int 0), (4, .int (A 35 0 (x2.toNatClampNeg))), (3, .int 1), (0, .ref (ad 20 0)), (1, .int x1), (2, .int x2)]) hx hb d7_begin_283 hl (by decide) rfl (fun ls hl => ?_)
                            refine lv_iload hx hb d7_begin_285 (lv_at hl 0 rfl) ?_
                            refine lv_if_ge (tgt := 293) hx hb d7_begin_287 (by decide) (fun c => absurd c (by decide)) (fun _ => ?_)
                            refine lv_iload hx hb d7_begin_290 (lv_at hl 0 rfl) ?_
                            exact se_i C0 hB (by rw [if_neg c_1, if_neg c_3, if_neg c_4, if_neg c_7, if_pos c_271, if_pos c_274, if_pos c_275, if_pos c_276, if_pos c_323, if_pos c_330, if_pos c_338, if_neg c_339, if_pos c_342] at hO; exact hO) d7_begin_292
                      · refine lv_bipush (v := (-7)) hx hb d7_begin_245 (by decide) ?_
                        refine lv_goto (tgt := 283) hx hb d7_begin_247 (by decide) ?_
                        refine lv_istore (lv' := [(6, .int (-7)), (7, .int x2), (5, .int 0), (4, .int (A 35 0 (x2.toNatClampNeg))), (3, .int 1), (0, .ref (ad 20 0)), (1, .int x1), (2, .int x2)]) hx hb d7_begin_283 hl (by decide) rfl (fun ls hl => ?_)
                        refine lv_iload hx hb d7_begin_285 (lv_at hl 0 rfl) ?_
                        refine lv_if_ge (tgt := 293) hx hb d7_begin_287 (by decide) (fun c => absurd c (by decide)) (fun _ => ?_)
                        refine lv_iload hx hb d7_begin_290 (lv_at hl 0 rfl) ?_
                        exact se_i C0 hB (by rw [if_neg c_1, if_neg c_3, if_neg c_4, if_neg c_7, if_pos c_271, if_pos c_274, if_pos c_275, if_pos c_276, if_pos c_323, if_pos c_330, if_neg c_338] at hO; exact hO) d7_begin_292
                    · refine lv_bipush (v := (-4)) hx hb d7_begin_160 (by decide) ?_
                      refine lv_goto (tgt := 166) hx hb d7_begin_162 (by decide) ?_
                      refine lv_istore (lv' := [(6, .int (-4)), (5, .int 0), (4, .int (A 35 0 (x2.toNatClampNeg))), (3, .int 1), (0, .ref (ad 20 0)), (1, .int x1), (2, .int x2)]) hx hb d7_begin_166 hl (by decide) rfl (fun ls hl => ?_)
                      refine lv_iload hx hb d7_begin_168 (lv_at hl 0 rfl) ?_
                      refine lv_if_ne (tgt := 198) hx hb d7_begin_170 (by decide) (fun _ => ?_) (fun c => absurd c (by decide))
                      refine lv_iload hx hb d7_begin_198 (lv_at hl 0 rfl) ?_
                      refine lv_if_ne (tgt := 219) hx hb d7_begin_200 (by decide) (fun _ => ?_) (fun c => absurd c (by decide))
                      refine lv_iload_n hx hb d7_begin_219 rfl (lv_at hl 5 rfl) ?_
                      refine lv_if_ne (tgt := 232) hx hb d7_begin_220 (by decide) (fun _ => ?_) (fun c => absurd c c_3)
                      refine lv_iload_n hx hb d7_begin_232 rfl (lv_at hl 6 rfl) ?_
                      refine lv_istore (lv' := [(7, .int x2), (6, .int (-4)), (5, .int 0), (4, .int (A 35 0 (x2.toNatClampNeg))), (3, .int 1), (0, .ref (ad 20 0)), (1, .int x1), (2, .int x2)]) hx hb d7_begin_233 hl (by decide) rfl (fun ls hl => ?_)
                      refine lv_iload hx hb d7_begin_235 (lv_at hl 1 rfl) ?_
                      refine lv_if_ne (tgt := 285) hx hb d7_begin_237 (by decide) (fun _ => ?_) (fun c => absurd c (by decide))
                      refine lv_iload hx hb d7_begin_285 (lv_at hl 1 rfl) ?_
                      refine lv_if_ge (tgt := 293) hx hb d7_begin_287 (by decide) (fun c => absurd c (by decide)) (fun _ => ?_)
                      refine lv_iload hx hb d7_begin_290 (lv_at hl 1 rfl) ?_
                      exact se_i C0 hB (by rw [if_neg c_1, if_neg c_3, if_neg c_4, if_neg c_7, if_pos c_271, if_pos c_274, if_pos c_275, if_pos c_276, if_pos c_323, if_neg c_330] at hO; exact hO) d7_begin_292
              · refine lv_bipush (v := (-2)) hx hb d7_begin_112 (by decide) ?_
                refine lv_goto (tgt := 166) hx hb d7_begin_114 (by decide) ?_
                refine lv_istore (lv' := [(6, .int (-2)), (5, .int 0), (4, .int (A 35 0 (x2.toNatClampNeg))), (3, .int 1), (0, .ref (ad 20 0)), (1, .int x1), (2, .int x2)]) hx hb d7_begin_166 hl (by decide) rfl (fun ls hl => ?_)
                refine lv_iload hx hb d7_begin_168 (lv_at hl 0 rfl) ?_
                refine lv_if_ne (tgt := 198) hx hb d7_begin_170 (by decide) (fun _ => ?_) (fun c => absurd c (by decide))
                refine lv_iload hx hb d7_begin_198 (lv_at hl 0 rfl) ?_
                refine lv_if_ne (tgt := 219) hx hb d7_begin_200 (by decide) (fun _ => ?_) (fun c => absurd c (by decide))
                refine lv_iload_n hx hb d7_begin_219 rfl (lv_at hl 5 rfl) ?_
                refine lv_if_ne (tgt := 232) hx hb d7_begin_220 (by decide) (fun _ => ?_) (fun c => absurd c c_3)
                refine lv_iload_n hx hb d7_begin_232 rfl (lv_at hl 6 rfl) ?_
                refine lv_istore (lv' := [(7, .int x2), (6, .int (-2)), (5, .int 0), (4, .int (A 35 0 (x2.toNatClampNeg))), (3, .int 1), (0, .ref (ad 20 0)), (1, .int x1), (2, .int x2)]) hx hb d7_begin_233 hl (by decide) rfl (fun ls hl => ?_)
                refine lv_iload hx hb d7_begin_235 (lv_at hl 1 rfl) ?_
                refine lv_if_ne (tgt := 285) hx hb d7_begin_237 (by decide) (fun _ => ?_) (fun c => absurd c (by decide))
                refine lv_iload hx hb d7_begin_285 (lv_at hl 1 rfl) ?_
                refine lv_if_ge (tgt := 293) hx hb d7_begin_287 (by decide) (fun c => absurd c (by decide)) (fun _ => ?_)
                refine lv_iload hx hb d7_begin_290 (lv_at hl 1 rfl) ?_
                exact se_i C0 hB (by rw [if_neg c_1, if_neg c_3, if_neg c_4, if_neg c_7, if_pos c_271, if_pos c_274, if_neg c_275] at hO; exact hO) d7_begin_292
            · refine lv_iload_n hx hb d7_begin_93 rfl (lv_at hl 3 rfl) ?_
              refine lv_iconst (v := 1) hx hb d7_begin_94 (by decide) ?_
              refine lv_icmp_eq (tgt := 102) hx hb d7_begin_95 (by decide) (fun c_359 => ?_) (fun c_359 => ?_)
              · refine lv_iconst (v := 0) hx hb d7_begin_102 (by decide) ?_
                refine lv_istore (lv' := [(5, .int 0), (4, .int (A 35 0 (x2.toNatClampNeg))), (3, .int 1), (0, .ref (ad 20 0)), (1, .int x1), (2, .int x2)]) hx hb d7_begin_103 hl (by decide) rfl (fun ls hl => ?_)
                refine lv_aload_n hx hb d7_begin_105 rfl (lv_at hl 3 rfl) ?_
                refine sr_get (v := .int (S 20 0 6)) hx hb hw hown hK hB 6 (hX 20 (by decide)) cf_20 us7 (by decide) fl_7_26 (rfl) d7_begin_106 ?_
                refine lv_if_ge (tgt := 117) hx hb d7_begin_109 (by decide) (fun c_360 => ?_) (fun c_360 => ?_)
                · refine lv_iload_n hx hb d7_begin_117 rfl (lv_at hl 4 rfl) ?_
                  refine lv_iconst (v := 1) hx hb d7_begin_118 (by decide) ?_
                  refine lv_icmp_ne (tgt := 135) hx hb d7_begin_119 (by decide) (fun c => absurd c_359 c) (fun _ => ?_)
                  refine lv_aload_n hx hb d7_begin_122 rfl (lv_at hl 3 rfl) ?_
                  refine sr_get (v := .ref (ad 23 0)) hx hb hw hown hK hB 2 (hX 20 (by decide)) cf_20 us7 (by decide) fl_7_13 (rfl) d7_begin_123 ?_
                  refine lv_aload_n hx hb d7_begin_126 rfl (lv_at hl 3 rfl) ?_
                  refine sr_get (v := .int (S 20 0 6)) hx hb hw hown hK hB 6 (hX 20 (by decide)) cf_20 us7 (by decide) fl_7_26 (rfl) d7_begin_127 ?_
                  refine sr_iald (v := A 23 0 ((S 20 0 6).toNatClampNeg)) hx hb hK hB (hX 23 (by decide)) rfl rfl (by (refine vp_in_iff.mpr ?_); (show 0 ≤ (S 20 0 6).toInt ∧ (S 20 0 6).toInt < ((16 : Nat) : Int)); (have a1 := sub1_i (x := S 20 0 20) (by omega)); (have kc_4 := hasBin_t c_4); (have kc_360 := le_i c_360); (have l0 : (0 : Int32).toInt = 0 := rfl); (have l20 : (20 : Int32).toInt = 20 := rfl); (have l6 : (6 : Int32).toInt = 6 := rfl);  omega) d7_begin_130 (rfl) ?_
                  refine lv_iconst (v := 1) hx hb d7_begin_131 (by decide) ?_
                  refine lv_icmp_ne (tgt := 148) hx hb d7_begin_132 (by decide) (fun c_362 => ?_) (fun c_362 => ?_)
                  · refine lv_bipush (v := (-3)) hx hb d7_begin_148 (by decide) ?_
                    refine lv_goto (tgt := 166) hx hb d7_begin_150 (by decide) ?_
                    refine lv_istore (lv' := [(6, .int (-3)), (5, .int 0), (4, .int (A 35 0 (x2.toNatClampNeg))), (3, .int 1), (0, .ref (ad 20 0)), (1, .int x1), (2, .int x2)]) hx hb d7_begin_166 hl (by decide) rfl (fun ls hl => ?_)
                    refine lv_iload hx hb d7_begin_168 (lv_at hl 0 rfl) ?_
                    refine lv_if_ne (tgt := 198) hx hb d7_begin_170 (by decide) (fun _ => ?_) (fun c => absurd c (by decide))
                    refine lv_iload hx hb d7_begin_198 (lv_at hl 0 rfl) ?_
                    refine lv_if_ne (tgt := 219) hx hb d7_begin_200 (by decide) (fun _ => ?_) (fun c => absurd c (by decide))
                    refine lv_iload_n hx hb d7_begin_219 rfl (lv_at hl 5 rfl) ?_
                    refine lv_if_ne (tgt := 232) hx hb d7_begin_220 (by decide) (fun _ => ?_) (fun c => absurd c c_3)
                    refine lv_iload_n hx hb d7_begin_232 rfl (lv_at hl 6 rfl) ?_
                    refine lv_istore (lv' := [(7, .int x2), (6, .int (-3)), (5, .int 0), (4, .int (A 35 0 (x2.toNatClampNeg))), (3, .int 1), (0, .ref (ad 20 0)), (1, .int x1), (2, .int x2)]) hx hb d7_begin_233 hl (by decide) rfl (fun ls hl => ?_)
                    refine lv_iload hx hb d7_begin_235 (lv_at hl 1 rfl) ?_
                    refine lv_if_ne (tgt := 285) hx hb d7_begin_237 (by decide) (fun _ => ?_) (fun c => absurd c (by decide))
                    refine lv_iload hx hb d7_begin_285 (lv_at hl 1 rfl) ?_
                    refine lv_if_ge (tgt := 293) hx hb d7_begin_287 (by decide) (fun c => absurd c (by decide)) (fun _ => ?_)
                    refine lv_iload hx hb d7_begin_290 (lv_at hl 1 rfl) ?_
                    exact se_i C0 hB (by rw [if_neg c_1, if_neg c_3, if_neg c_4, if_neg c_7, if_pos c_271, if_neg c_274, if_pos c_359, if_pos c_360, if_neg c_362] at hO; exact hO) d7_begin_292
                  · refine lv_aload_n hx hb d7_begin_135 rfl (lv_at hl 3 rfl) ?_
                    refine sr_get (v := .ref (ad 23 0)) hx hb hw hown hK hB 2 (hX 20 (by decide)) cf_20 us7 (by decide) fl_7_13 (rfl) d7_begin_136 ?_
                    refine lv_aload_n hx hb d7_begin_139 rfl (lv_at hl 3 rfl) ?_
                    refine sr_get (v := .int (S 20 0 6)) hx hb hw hown hK hB 6 (hX 20 (by decide)) cf_20 us7 (by decide) fl_7_26 (rfl) d7_begin_140 ?_
                    refine sr_iald (v := A 23 0 ((S 20 0 6).toNatClampNeg)) hx hb hK hB (hX 23 (by decide)) rfl rfl (by (refine vp_in_iff.mpr ?_); (show 0 ≤ (S 20 0 6).toInt ∧ (S 20 0 6).toInt < ((16 : Nat) : Int)); (have a1 := sub1_i (x := S 20 0 20) (by omega)); (have kc_4 := hasBin_t c_4); (have kc_360 := le_i c_360); (have l0 : (0 : Int32).toInt = 0 := rfl); (have l20 : (20 : Int32).toInt = 20 := rfl); (have l6 : (6 : Int32).toInt = 6 := rfl);  omega) d7_begin_143 (rfl) ?_
                    refine lv_iconst (v := 2) hx hb d7_begin_144 (by decide) ?_
                    refine lv_icmp_ne (tgt := 153) hx hb d7_begin_145 (by decide) (fun _ => ?_) (fun c => absurd c (by rw [c_362]; decide))
                    refine lv_aload_n hx hb d7_begin_153 rfl (lv_at hl 3 rfl) ?_
                    refine sr_get (v := .int (S 20 0 27)) hx hb hw hown hK hB 27 (hX 20 (by decide)) cf_20 us7 (by decide) fl_7_81 (rfl) d7_begin_154 ?_
                    refine lv_if_lt (tgt := 165) hx hb d7_begin_157 (by decide) (fun c_369 => ?_) (fun c_369 => ?_)
                    · refine lv_iconst (v := 0) hx hb d7_begin_165 (by decide) ?_
                      refine lv_istore (lv' := [(6, .int 0), (5, .int 0), (4, .int (A 35 0 (x2.toNatClampNeg))), (3, .int 1), (0, .ref (ad 20 0)), (1, .int x1), (2, .int x2)]) hx hb d7_begin_166 hl (by decide) rfl (fun ls hl => ?_)
                      refine lv_iload hx hb d7_begin_168 (lv_at hl 0 rfl) ?_
                      refine lv_if_ne (tgt := 198) hx hb d7_begin_170 (by decide) (fun c => absurd (by decide) c) (fun _ => ?_)
                      refine lv_iload_n hx hb d7_begin_173 rfl (lv_at hl 5 rfl) ?_
                      refine lv_iconst (v := 3) hx hb d7_begin_174 (by decide) ?_
                      refine lv_icmp_eq (tgt := 187) hx hb d7_begin_175 (by decide) (fun c => absurd c (by rw [c_359]; decide)) (fun _ => ?_)
                      refine lv_iload_n hx hb d7_begin_178 rfl (lv_at hl 5 rfl) ?_
                      refine lv_if_ne (tgt := 198) hx hb d7_begin_179 (by decide) (fun _ => ?_) (fun c => absurd c c_3)
                      refine lv_iload hx hb d7_begin_198 (lv_at hl 0 rfl) ?_
                      refine lv_if_ne (tgt := 219) hx hb d7_begin_200 (by decide) (fun c => absurd (by decide) c) (fun _ => ?_)
                      refine lv_iload_n hx hb d7_begin_203 rfl (lv_at hl 5 rfl) ?_
                      refine lv_if_ne (tgt := 219) hx hb d7_begin_204 (by decide) (fun _ => ?_) (fun c => absurd c c_3)
                      refine lv_iload_n hx hb d7_begin_219 rfl (lv_at hl 5 rfl) ?_
                      refine lv_if_ne (tgt := 232) hx hb d7_begin_220 (by decide) (fun _ => ?_) (fun c => absurd c c_3)
                      refine lv_iload_n hx hb d7_begin_232 rfl (lv_at hl 6 rfl) ?_
                      refine lv_istore (lv' := [(7, .int x2), (6, .int 0), (5, .int 0), (4, .int (A 35 0 (x2.toNatClampNeg))), (3, .int 1), (0, .ref (ad 20 0)), (1, .int x1), (2, .int x2)]) hx hb d7_begin_233 hl (by decide) rfl (fun ls hl => ?_)
                      refine lv_iload hx hb d7_begin_235 (lv_at hl 1 rfl) ?_
                      refine lv_if_ne (tgt := 285) hx hb d7_begin_237 (by decide) (fun c => absurd (by decide) c) (fun _ => ?_)
                      refine lv_iload hx hb d7_begin_240 (lv_at hl 0 rfl) ?_
                      refine lv_if_ge (tgt := 250) hx hb d7_begin_242 (by decide) (fun c_377 => ?_) (fun c_377 => ?_)
                      · refine lv_aload_n hx hb d7_begin_250 rfl (lv_at hl 5 rfl) ?_
                        refine sr_get (v := .int (S 20 0 34)) hx hb hw hown hK hB 34 (hX 20 (by decide)) cf_20 us7 (by decide) fl_7_130 (rfl) d7_begin_251 ?_
                        refine lv_sipush (v := 290) hx hb d7_begin_254 (by decide) ?_
                        refine lv_icmp_ge (tgt := 277) hx hb d7_begin_257 (by decide) (fun c_378 => ?_) (fun c_378 => ?_)
                        · refine lv_bipush (v := (-8)) hx hb d7_begin_277 (by decide) ?_
                          refine lv_goto (tgt := 283) hx hb d7_begin_279 (by decide) ?_
                          refine lv_istore (lv' := [(6, .int (-8)), (7, .int x2), (5, .int 0), (4, .int (A 35 0 (x2.toNatClampNeg))), (3, .int 1), (0, .ref (ad 20 0)), (1, .int x1), (2, .int x2)]) hx hb d7_begin_283 hl (by decide) rfl (fun ls hl => ?_)
                          refine lv_iload hx hb d7_begin_285 (lv_at hl 0 rfl) ?_
                          refine lv_if_ge (tgt := 293) hx hb d7_begin_287 (by decide) (fun c => absurd c (by decide)) (fun _ => ?_)
                          refine lv_iload hx hb d7_begin_290 (lv_at hl 0 rfl) ?_
                          exact se_i C0 hB (by rw [if_neg c_1, if_neg c_3, if_neg c_4, if_neg c_7, if_pos c_271, if_neg c_274, if_pos c_359, if_pos c_360, if_pos c_362, if_pos c_369, if_pos c_377, if_pos c_378] at hO; exact hO) d7_begin_292
                        · refine lv_iload_n hx hb d7_begin_260 rfl (lv_at hl 6 rfl) ?_
                          refine lv_iconst (v := 1) hx hb d7_begin_261 (by decide) ?_
                          refine lv_icmp_ne (tgt := 282) hx hb d7_begin_262 (by decide) (fun c => absurd c_359 c) (fun _ => ?_)
                          refine lv_aload_n hx hb d7_begin_265 rfl (lv_at hl 5 rfl) ?_
                          refine sr_get (v := .ref (ad 36 0)) hx hb hw hown hK hB 15 (hX 20 (by decide)) cf_20 us7 (by decide) fl_7_48 (rfl) d7_begin_266 ?_
                          refine lv_iload hx hb d7_begin_269 (lv_at hl 0 rfl) ?_
                          refine sr_iald (v := A 36 0 (x2.toNatClampNeg)) hx hb hK hB (hX 36 (by decide)) rfl rfl (by (refine vp_in_iff.mpr ?_); (show 0 ≤ x2.toInt ∧ x2.toInt < ((64 : Nat) : Int)); (have a1 := sub1_i (x := S 20 0 20) (by omega)); (have kc_4 := hasBin_t c_4); (have kc_377 := le_i c_377); (have l0 : (0 : Int32).toInt = 0 := rfl);  omega) d7_begin_271 (rfl) ?_
                          refine lv_bipush (v := 6) hx hb d7_begin_272 (by decide) ?_
                          refine lv_icmp_ne (tgt := 282) hx hb d7_begin_274 (by decide) (fun c_381 => ?_) (fun c_381 => ?_)
                          · refine lv_iconst (v := 0) hx hb d7_begin_282 (by decide) ?_
                            refine lv_istore (lv' := [(6, .int 0), (7, .int x2), (5, .int 0), (4, .int (A 35 0 (x2.toNatClampNeg))), (3, .int 1), (0, .ref (ad 20 0)), (1, .int x1), (2, .int x2)]) hx hb d7_begin_283 hl (by decide) rfl (fun ls hl => ?_)
                            refine lv_iload hx hb d7_begin_285 (lv_at hl 0 rfl) ?_
                            refine lv_if_ge (tgt := 293) hx hb d7_begin_287 (by decide) (fun _ => ?_) (fun c => absurd (by decide) c)
                            refine lv_aload_n hx hb d7_begin_293 rfl (lv_at hl 5 rfl) ?_
                            refine lv_iload_n hx hb d7_begin_294 rfl (lv_at hl 6 rfl) ?_
                            refine sr_put hx hb hw hown hK hB 27 (hX 20 (by decide)) cf_20 us7 tk7 nm7 (by decide) fl_7_81 rfl rfl rfl rfl d7_begin_295 (fun H locs hB => ?_)
                            refine lv_aload_n hx hb d7_begin_298 rfl (lv_at hl 5 rfl) ?_
                            refine lv_iload hx hb d7_begin_299 (lv_at hl 1 rfl) ?_
                            refine sr_put hx hb hw hown hK hB 28 (hX 20 (by decide)) cf_20 us7 tk7 nm7 (by decide) fl_7_153 rfl rfl rfl rfl d7_begin_301 (fun H locs hB => ?_)
                            refine lv_aload_n hx hb d7_begin_304 rfl (lv_at hl 5 rfl) ?_
                            refine lv_iload_n hx hb d7_begin_305 rfl (lv_at hl 6 rfl) ?_
                            refine lv_if_ne (tgt := 313) hx hb d7_begin_306 (by decide) (fun _ => ?_) (fun c => absurd c c_3)
                            refine lv_iconst (v := (-1)) hx hb d7_begin_313 (by decide) ?_
                            refine sr_put hx hb hw hown hK hB 29 (hX 20 (by decide)) cf_20 us7 tk7 nm7 (by decide) fl_7_124 rfl rfl rfl rfl d7_begin_314 (fun H locs hB => ?_)
                            refine lv_aload_n hx hb d7_begin_317 rfl (lv_at hl 5 rfl) ?_
                            refine lv_aload_n hx hb d7_begin_318 rfl (lv_at hl 5 rfl) ?_
                            refine sr_get (v := .int (S 20 0 0)) hx hb hw hown hK hB 0 (hX 20 (by decide)) cf_20 us7 (by decide) fl_7_100 (rfl) d7_begin_319 ?_
                            refine sr_put hx hb hw hown hK hB 30 (hX 20 (by decide)) cf_20 us7 tk7 nm7 (by decide) fl_7_156 rfl rfl rfl rfl d7_begin_322 (fun H locs hB => ?_)
                            refine lv_aload_n hx hb d7_begin_325 rfl (lv_at hl 5 rfl) ?_
                            refine lv_iload_n hx hb d7_begin_326 rfl (lv_at hl 6 rfl) ?_
                            refine lv_iconst (v := 2) hx hb d7_begin_327 (by decide) ?_
                            refine lv_icmp_eq (tgt := 336) hx hb d7_begin_328 (by decide) (fun c => absurd c (by rw [c_359]; decide)) (fun _ => ?_)
                            refine lv_iload hx hb d7_begin_331 (lv_at hl 2 rfl) ?_
                            refine lv_if_eq (tgt := 340) hx hb d7_begin_333 (by decide) (fun _ => ?_) (fun c => absurd (by decide) c)
                            refine lv_iconst (v := 0) hx hb d7_begin_340 (by decide) ?_
                            refine sr_put hx hb hw hown hK hB 31 (hX 20 (by decide)) cf_20 us7 tk7 nm7 (by decide) fl_7_159 rfl rfl rfl rfl d7_begin_341 (fun H locs hB => ?_)
                            refine lv_aload_n hx hb d7_begin_344 rfl (lv_at hl 5 rfl) ?_
                            refine lv_iconst (v := 0) hx hb d7_begin_345 (by decide) ?_
                            refine sr_put hx hb hw hown hK hB 32 (hX 20 (by decide)) cf_20 us7 tk7 nm7 (by decide) fl_7_163 rfl rfl rfl rfl d7_begin_346 (fun H locs hB => ?_)
                            refine lv_aload_n hx hb d7_begin_349 rfl (lv_at hl 5 rfl) ?_
                            refine lv_iconst (v := 0) hx hb d7_begin_350 (by decide) ?_
                            refine sr_put hx hb hw hown hK hB 33 (hX 20 (by decide)) cf_20 us7 tk7 nm7 (by decide) fl_7_166 rfl rfl rfl rfl d7_begin_351 (fun H locs hB => ?_)
                            refine lv_aload_n hx hb d7_begin_354 rfl (lv_at hl 5 rfl) ?_
                            refine lv_aload_n hx hb d7_begin_355 rfl (lv_at hl 5 rfl) ?_
                            refine sr_get (v := .int (S 20 0 0)) hx hb hw hown hK hB 0 (hX 20 (by decide)) cf_20 us7 (by decide) fl_7_100 (rfl) d7_begin_356 ?_
                            refine sr_put hx hb hw hown hK hB 7 (hX 20 (by decide)) cf_20 us7 tk7 nm7 (by decide) fl_7_114 rfl rfl rfl rfl d7_begin_359 (fun H locs hB => ?_)
                            refine lv_iload hx hb d7_begin_362 (lv_at hl 1 rfl) ?_
                            exact se_i C0 hB (by rw [if_neg c_1, if_neg c_3, if_neg c_4, if_neg c_7, if_pos c_271, if_neg c_274, if_pos c_359, if_pos c_360, if_pos c_362, if_pos c_369, if_pos c_377, if_neg c_378, if_neg c_381] at hO; exact hO) d7_begin_364
                          · refine lv_bipush (v := (-8)) hx hb d7_begin_277 (by decide) ?_
                            refine lv_goto (tgt := 283) hx hb d7_begin_279 (by decide) ?_
                            refine lv_istore (lv' := [(6, .int (-8)), (7, .int x2), (5, .int 0), (4, .int (A 35 0 (x2.toNatClampNeg))), (3, .int 1), (0, .ref (ad 20 0)), (1, .int x1), (2, .int x2)]) hx hb d7_begin_283 hl (by decide) rfl (fun ls hl => ?_)
                            refine lv_iload hx hb d7_begin_285 (lv_at hl 0 rfl) ?_
                            refine lv_if_ge (tgt := 293) hx hb d7_begin_287 (by decide) (fun c => absurd c (by decide)) (fun _ => ?_)
                            refine lv_iload hx hb d7_begin_290 (lv_at hl 0 rfl) ?_
                            exact se_i C0 hB (by rw [if_neg c_1, if_neg c_3, if_neg c_4, if_neg c_7, if_pos c_271, if_neg c_274, if_pos c_359, if_pos c_360, if_pos c_362, if_pos c_369, if_pos c_377, if_neg c_378, if_pos c_381] at hO; exact hO) d7_begin_292
                      · refine lv_bipush (v := (-7)) hx hb d7_begin_245 (by decide) ?_
                        refine lv_goto (tgt := 283) hx hb d7_begin_247 (by decide) ?_
                        refine lv_istore (lv' := [(6, .int (-7)), (7, .int x2), (5, .int 0), (4, .int (A 35 0 (x2.toNatClampNeg))), (3, .int 1), (0, .ref (ad 20 0)), (1, .int x1), (2, .int x2)]) hx hb d7_begin_283 hl (by decide) rfl (fun ls hl => ?_)
                        refine lv_iload hx hb d7_begin_285 (lv_at hl 0 rfl) ?_
                        refine lv_if_ge (tgt := 293) hx hb d7_begin_287 (by decide) (fun c => absurd c (by decide)) (fun _ => ?_)
                        refine lv_iload hx hb d7_begin_290 (lv_at hl 0 rfl) ?_
                        exact se_i C0 hB (by rw [if_neg c_1, if_neg c_3, if_neg c_4, if_neg c_7, if_pos c_271, if_neg c_274, if_pos c_359, if_pos c_360, if_pos c_362, if_pos c_369, if_neg c_377] at hO; exact hO) d7_begin_292
                    · refine lv_bipush (v := (-4)) hx hb d7_begin_160 (by decide) ?_
                      refine lv_goto (tgt := 166) hx hb d7_begin_162 (by decide) ?_
                      refine lv_istore (lv' := [(6, .int (-4)), (5, .int 0), (4, .int (A 35 0 (x2.toNatClampNeg))), (3, .int 1), (0, .ref (ad 20 0)), (1, .int x1), (2, .int x2)]) hx hb d7_begin_166 hl (by decide) rfl (fun ls hl => ?_)
                      refine lv_iload hx hb d7_begin_168 (lv_at hl 0 rfl) ?_
                      refine lv_if_ne (tgt := 198) hx hb d7_begin_170 (by decide) (fun _ => ?_) (fun c => absurd c (by decide))
                      refine lv_iload hx hb d7_begin_198 (lv_at hl 0 rfl) ?_
                      refine lv_if_ne (tgt := 219) hx hb d7_begin_200 (by decide) (fun _ => ?_) (fun c => absurd c (by decide))
                      refine lv_iload_n hx hb d7_begin_219 rfl (lv_at hl 5 rfl) ?_
                      refine lv_if_ne (tgt := 232) hx hb d7_begin_220 (by decide) (fun _ => ?_) (fun c => absurd c c_3)
                      refine lv_iload_n hx hb d7_begin_232 rfl (lv_at hl 6 rfl) ?_
                      refine lv_istore (lv' := [(7, .int x2), (6, .int (-4)), (5, .int 0), (4, .int (A 35 0 (x2.toNatClampNeg))), (3, .int 1), (0, .ref (ad 20 0)), (1, .int x1), (2, .int x2)]) hx hb d7_begin_233 hl (by decide) rfl (fun ls hl => ?_)
                      refine lv_iload hx hb d7_begin_235 (lv_at hl 1 rfl) ?_
                      refine lv_if_ne (tgt := 285) hx hb d7_begin_237 (by decide) (fun _ => ?_) (fun c => absurd c (by decide))
                      refine lv_iload hx hb d7_begin_285 (lv_at hl 1 rfl) ?_
                      refine lv_if_ge (tgt := 293) hx hb d7_begin_287 (by decide) (fun c => absurd c (by decide)) (fun _ => ?_)
                      refine lv_iload hx hb d7_begin_290 (lv_at hl 1 rfl) ?_
                      exact se_i C0 hB (by rw [if_neg c_1, if_neg c_3, if_neg c_4, if_neg c_7, if_pos c_271, if_neg c_274, if_pos c_359, if_pos c_360, if_pos c_362, if_neg c_369] at hO; exact hO) d7_begin_292
                · refine lv_bipush (v := (-2)) hx hb d7_begin_112 (by decide) ?_
                  refine lv_goto (tgt := 166) hx hb d7_begin_114 (by decide) ?_
                  refine lv_istore (lv' := [(6, .int (-2)), (5, .int 0), (4, .int (A 35 0 (x2.toNatClampNeg))), (3, .int 1), (0, .ref (ad 20 0)), (1, .int x1), (2, .int x2)]) hx hb d7_begin_166 hl (by decide) rfl (fun ls hl => ?_)
                  refine lv_iload hx hb d7_begin_168 (lv_at hl 0 rfl) ?_
                  refine lv_if_ne (tgt := 198) hx hb d7_begin_170 (by decide) (fun _ => ?_) (fun c => absurd c (by decide))
                  refine lv_iload hx hb d7_begin_198 (lv_at hl 0 rfl) ?_
                  refine lv_if_ne (tgt := 219) hx hb d7_begin_200 (by decide) (fun _ => ?_) (fun c => absurd c (by decide))
                  refine lv_iload_n hx hb d7_begin_219 rfl (lv_at hl 5 rfl) ?_
                  refine lv_if_ne (tgt := 232) hx hb d7_begin_220 (by decide) (fun _ => ?_) (fun c => absurd c c_3)
                  refine lv_iload_n hx hb d7_begin_232 rfl (lv_at hl 6 rfl) ?_
                  refine lv_istore (lv' := [(7, .int x2), (6, .int (-2)), (5, .int 0), (4, .int (A 35 0 (x2.toNatClampNeg))), (3, .int 1), (0, .ref (ad 20 0)), (1, .int x1), (2, .int x2)]) hx hb d7_begin_233 hl (by decide) rfl (fun ls hl => ?_)
                  refine lv_iload hx hb d7_begin_235 (lv_at hl 1 rfl) ?_
                  refine lv_if_ne (tgt := 285) hx hb d7_begin_237 (by decide) (fun _ => ?_) (fun c => absurd c (by decide))
                  refine lv_iload hx hb d7_begin_285 (lv_at hl 1 rfl) ?_
                  refine lv_if_ge (tgt := 293) hx hb d7_begin_287 (by decide) (fun c => absurd c (by decide)) (fun _ => ?_)
                  refine lv_iload hx hb d7_begin_290 (lv_at hl 1 rfl) ?_
                  exact se_i C0 hB (by rw [if_neg c_1, if_neg c_3, if_neg c_4, if_neg c_7, if_pos c_271, if_neg c_274, if_pos c_359, if_neg c_360] at hO; exact hO) d7_begin_292
              · refine lv_iconst (v := 1) hx hb d7_begin_98 (by decide) ?_
                refine lv_goto (tgt := 103) hx hb d7_begin_99 (by decide) ?_
                refine lv_istore (lv' := [(5, .int 1), (4, .int (A 35 0 (x2.toNatClampNeg))), (3, .int 1), (0, .ref (ad 20 0)), (1, .int x1), (2, .int x2)]) hx hb d7_begin_103 hl (by decide) rfl (fun ls hl => ?_)
                refine lv_aload_n hx hb d7_begin_105 rfl (lv_at hl 3 rfl) ?_
                refine sr_get (v := .int (S 20 0 6)) hx hb hw hown hK hB 6 (hX 20 (by decide)) cf_20 us7 (by decide) fl_7_26 (rfl) d7_begin_106 ?_
                refine lv_if_ge (tgt := 117) hx hb d7_begin_109 (by decide) (fun c_398 => ?_) (fun c_398 => ?_)
                · refine lv_iload_n hx hb d7_begin_117 rfl (lv_at hl 4 rfl) ?_
                  refine lv_iconst (v := 1) hx hb d7_begin_118 (by decide) ?_
                  refine lv_icmp_ne (tgt := 135) hx hb d7_begin_119 (by decide) (fun _ => ?_) (fun c => absurd c c_359)
                  refine lv_aload_n hx hb d7_begin_135 rfl (lv_at hl 3 rfl) ?_
                  refine sr_get (v := .ref (ad 23 0)) hx hb hw hown hK hB 2 (hX 20 (by decide)) cf_20 us7 (by decide) fl_7_13 (rfl) d7_begin_136 ?_
                  refine lv_aload_n hx hb d7_begin_139 rfl (lv_at hl 3 rfl) ?_
                  refine sr_get (v := .int (S 20 0 6)) hx hb hw hown hK hB 6 (hX 20 (by decide)) cf_20 us7 (by decide) fl_7_26 (rfl) d7_begin_140 ?_
                  refine sr_iald (v := A 23 0 ((S 20 0 6).toNatClampNeg)) hx hb hK hB (hX 23 (by decide)) rfl rfl (by (refine vp_in_iff.mpr ?_); (show 0 ≤ (S 20 0 6).toInt ∧ (S 20 0 6).toInt < ((16 : Nat) : Int)); (have a1 := sub1_i (x := S 20 0 20) (by omega)); (have kc_4 := hasBin_t c_4); (have kc_398 := le_i c_398); (have l0 : (0 : Int32).toInt = 0 := rfl); (have l20 : (20 : Int32).toInt = 20 := rfl); (have l6 : (6 : Int32).toInt = 6 := rfl);  omega) d7_begin_143 (rfl) ?_
                  refine lv_iconst (v := 2) hx hb d7_begin_144 (by decide) ?_
                  refine lv_icmp_ne (tgt := 153) hx hb d7_begin_145 (by decide) (fun c_400 => ?_) (fun c_400 => ?_)
                  · refine lv_aload_n hx hb d7_begin_153 rfl (lv_at hl 3 rfl) ?_
                    refine sr_get (v := .int (S 20 0 27)) hx hb hw hown hK hB 27 (hX 20 (by decide)) cf_20 us7 (by decide) fl_7_81 (rfl) d7_begin_154 ?_
                    refine lv_if_lt (tgt := 165) hx hb d7_begin_157 (by decide) (fun c_401 => ?_) (fun c_401 => ?_)
                    · refine lv_iconst (v := 0) hx hb d7_begin_165 (by decide) ?_
                      refine lv_istore (lv' := [(6, .int 0), (5, .int 1), (4, .int (A 35 0 (x2.toNatClampNeg))), (3, .int 1), (0, .ref (ad 20 0)), (1, .int x1), (2, .int x2)]) hx hb d7_begin_166 hl (by decide) rfl (fun ls hl => ?_)
                      refine lv_iload hx hb d7_begin_168 (lv_at hl 0 rfl) ?_
                      refine lv_if_ne (tgt := 198) hx hb d7_begin_170 (by decide) (fun c => absurd (by decide) c) (fun _ => ?_)
                      refine lv_iload_n hx hb d7_begin_173 rfl (lv_at hl 5 rfl) ?_
                      refine lv_iconst (v := 3) hx hb d7_begin_174 (by decide) ?_
                      refine lv_icmp_eq (tgt := 187) hx hb d7_begin_175 (by decide) (fun c_403 => ?_) (fun c_403 => ?_)
                      · refine lv_aload_n hx hb d7_begin_187 rfl (lv_at hl 4 rfl) ?_
                        refine sr_vp C0 hB (m7_isWatched hX  ) (hX 20 (by decide)) cf_20 ml_7_143 im_7_isWatched se_7_isWatched in_7 cd_7_isWatched hd7_isWatched ⟨⟨rfl, rfl⟩, by decide, by decide⟩ ⟨Nat.zero_le _, Nat.zero_le _⟩ hl.1 rfl (Nat.le_of_ble_eq_true rfl) d7_begin_188 ?_
                        refine lv_if_ne (tgt := 198) hx hb d7_begin_191 (by decide) (fun c_404 => ?_) (fun c_404 => ?_)
                        · refine lv_iload hx hb d7_begin_198 (lv_at hl 0 rfl) ?_
                          refine lv_if_ne (tgt := 219) hx hb d7_begin_200 (by decide) (fun c => absurd (by decide) c) (fun _ => ?_)
                          refine lv_iload_n hx hb d7_begin_203 rfl (lv_at hl 5 rfl) ?_
                          refine lv_if_ne (tgt := 219) hx hb d7_begin_204 (by decide) (fun _ => ?_) (fun c => absurd c c_3)
                          refine lv_iload_n hx hb d7_begin_219 rfl (lv_at hl 5 rfl) ?_
                          refine lv_if_ne (tgt := 232) hx hb d7_begin_220 (by decide) (fun _ => ?_) (fun c => absurd c c_3)
                          refine lv_iload_n hx hb d7_begin_232 rfl (lv_at hl 6 rfl) ?_
                          refine lv_istore (lv' := [(7, .int x2), (6, .int 0), (5, .int 1), (4, .int (A 35 0 (x2.toNatClampNeg))), (3, .int 1), (0, .ref (ad 20 0)), (1, .int x1), (2, .int x2)]) hx hb d7_begin_233 hl (by decide) rfl (fun ls hl => ?_)
                          refine lv_iload hx hb d7_begin_235 (lv_at hl 1 rfl) ?_
                          refine lv_if_ne (tgt := 285) hx hb d7_begin_237 (by decide) (fun c => absurd (by decide) c) (fun _ => ?_)
                          refine lv_iload hx hb d7_begin_240 (lv_at hl 0 rfl) ?_
                          refine lv_if_ge (tgt := 250) hx hb d7_begin_242 (by decide) (fun c_409 => ?_) (fun c_409 => ?_)
                          · refine lv_aload_n hx hb d7_begin_250 rfl (lv_at hl 5 rfl) ?_
                            refine sr_get (v := .int (S 20 0 34)) hx hb hw hown hK hB 34 (hX 20 (by decide)) cf_20 us7 (by decide) fl_7_130 (rfl) d7_begin_251 ?_
                            refine lv_sipush (v := 290) hx hb d7_begin_254 (by decide) ?_
                            refine lv_icmp_ge (tgt := 277) hx hb d7_begin_257 (by decide) (fun c_410 => ?_) (fun c_410 => ?_)
                            · refine lv_bipush (v := (-8)) hx hb d7_begin_277 (by decide) ?_
                              refine lv_goto (tgt := 283) hx hb d7_begin_279 (by decide) ?_
                              refine lv_istore (lv' := [(6, .int (-8)), (7, .int x2), (5, .int 1), (4, .int (A 35 0 (x2.toNatClampNeg))), (3, .int 1), (0, .ref (ad 20 0)), (1, .int x1), (2, .int x2)]) hx hb d7_begin_283 hl (by decide) rfl (fun ls hl => ?_)
                              refine lv_iload hx hb d7_begin_285 (lv_at hl 0 rfl) ?_
                              refine lv_if_ge (tgt := 293) hx hb d7_begin_287 (by decide) (fun c => absurd c (by decide)) (fun _ => ?_)
                              refine lv_iload hx hb d7_begin_290 (lv_at hl 0 rfl) ?_
                              exact se_i C0 hB (by rw [if_neg c_1, if_neg c_3, if_neg c_4, if_neg c_7, if_pos c_271, if_neg c_274, if_neg c_359, if_pos c_398, if_neg c_400, if_pos c_401, if_pos c_403, if_neg c_404, if_pos c_409, if_pos c_410] at hO; exact hO) d7_begin_292
                            · refine lv_iload_n hx hb d7_begin_260 rfl (lv_at hl 6 rfl) ?_
                              refine lv_iconst (v := 1) hx hb d7_begin_261 (by decide) ?_
                              refine lv_icmp_ne (tgt := 282) hx hb d7_begin_262 (by decide) (fun _ => ?_) (fun c => absurd c c_359)
                              refine lv_iconst (v := 0) hx hb d7_begin_282 (by decide) ?_
                              refine lv_istore (lv' := [(6, .int 0), (7, .int x2), (5, .int 1), (4, .int (A 35 0 (x2.toNatClampNeg))), (3, .int 1), (0, .ref (ad 20 0)), (1, .int x1), (2, .int x2)]) hx hb d7_begin_283 hl (by decide) rfl (fun ls hl => ?_)
                              refine lv_iload hx hb d7_begin_285 (lv_at hl 0 rfl) ?_
                              refine lv_if_ge (tgt := 293) hx hb d7_begin_287 (by decide) (fun _ => ?_) (fun c => absurd (by decide) c)
                              refine lv_aload_n hx hb d7_begin_293 rfl (lv_at hl 5 rfl) ?_
                              refine lv_iload_n hx hb d7_begin_294 rfl (lv_at hl 6 rfl) ?_
                              refine sr_put hx hb hw hown hK hB 27 (hX 20 (by decide)) cf_20 us7 tk7 nm7 (by decide) fl_7_81 rfl rfl rfl rfl d7_begin_295 (fun H locs hB => ?_)
                              refine lv_aload_n hx hb d7_begin_298 rfl (lv_at hl 5 rfl) ?_
                              refine lv_iload hx hb d7_begin_299 (lv_at hl 1 rfl) ?_
                              refine sr_put hx hb hw hown hK hB 28 (hX 20 (by decide)) cf_20 us7 tk7 nm7 (by decide) fl_7_153 rfl rfl rfl rfl d7_begin_301 (fun H locs hB => ?_)
                              refine lv_aload_n hx hb d7_begin_304 rfl (lv_at hl 5 rfl) ?_
                              refine lv_iload_n hx hb d7_begin_305 rfl (lv_at hl 6 rfl) ?_
                              refine lv_if_ne (tgt := 313) hx hb d7_begin_306 (by decide) (fun _ => ?_) (fun c => absurd c c_3)
                              refine lv_iconst (v := (-1)) hx hb d7_begin_313 (by decide) ?_
                              refine sr_put hx hb hw hown hK hB 29 (hX 20 (by decide)) cf_20 us7 tk7 nm7 (by decide) fl_7_124 rfl rfl rfl rfl d7_begin_314 (fun H locs hB => ?_)
                              refine lv_aload_n hx hb d7_begin_317 rfl (lv_at hl 5 rfl) ?_
                              refine lv_aload_n hx hb d7_begin_318 rfl (lv_at hl 5 rfl) ?_
                              refine sr_get (v := .int (S 20 0 0)) hx hb hw hown hK hB 0 (hX 20 (by decide)) cf_20 us7 (by decide) fl_7_100 (rfl) d7_begin_319 ?_
                              refine sr_put hx hb hw hown hK hB 30 (hX 20 (by decide)) cf_20 us7 tk7 nm7 (by decide) fl_7_156 rfl rfl rfl rfl d7_begin_322 (fun H locs hB => ?_)
                              refine lv_aload_n hx hb d7_begin_325 rfl (lv_at hl 5 rfl) ?_
                              refine lv_iload_n hx hb d7_begin_326 rfl (lv_at hl 6 rfl) ?_
                              refine lv_iconst (v := 2) hx hb d7_begin_327 (by decide) ?_
                              refine lv_icmp_eq (tgt := 336) hx hb d7_begin_328 (by decide) (fun c => absurd c (by rw [c_403]; decide)) (fun _ => ?_)
                              refine lv_iload hx hb d7_begin_331 (lv_at hl 2 rfl) ?_
                              refine lv_if_eq (tgt := 340) hx hb d7_begin_333 (by decide) (fun c => absurd c (by decide)) (fun _ => ?_)
                              refine lv_iconst (v := 1) hx hb d7_begin_336 (by decide) ?_
                              refine lv_goto (tgt := 341) hx hb d7_begin_337 (by decide) ?_
                              refine sr_put hx hb hw hown hK hB 31 (hX 20 (by decide)) cf_20 us7 tk7 nm7 (by decide) fl_7_159 rfl rfl rfl rfl d7_begin_341 (fun H locs hB => ?_)
                              refine lv_aload_n hx hb d7_begin_344 rfl (lv_at hl 5 rfl) ?_
                              refine lv_iconst (v := 0) hx hb d7_begin_345 (by decide) ?_
                              refine sr_put hx hb hw hown hK hB 32 (hX 20 (by decide)) cf_20 us7 tk7 nm7 (by decide) fl_7_163 rfl rfl rfl rfl d7_begin_346 (fun H locs hB => ?_)
                              refine lv_aload_n hx hb d7_begin_349 rfl (lv_at hl 5 rfl) ?_
                              refine lv_iconst (v := 0) hx hb d7_begin_350 (by decide) ?_
                              refine sr_put hx hb hw hown hK hB 33 (hX 20 (by decide)) cf_20 us7 tk7 nm7 (by decide) fl_7_166 rfl rfl rfl rfl d7_begin_351 (fun H locs hB => ?_)
                              refine lv_aload_n hx hb d7_begin_354 rfl (lv_at hl 5 rfl) ?_
                              refine lv_aload_n hx hb d7_begin_355 rfl (lv_at hl 5 rfl) ?_
                              refine sr_get (v := .int (S 20 0 0)) hx hb hw hown hK hB 0 (hX 20 (by decide)) cf_20 us7 (by decide) fl_7_100 (rfl) d7_begin_356 ?_
                              refine sr_put hx hb hw hown hK hB 7 (hX 20 (by decide)) cf_20 us7 tk7 nm7 (by decide) fl_7_114 rfl rfl rfl rfl d7_begin_359 (fun H locs hB => ?_)
                              refine lv_iload hx hb d7_begin_362 (lv_at hl 1 rfl) ?_
                              exact se_i C0 hB (by rw [if_neg c_1, if_neg c_3, if_neg c_4, if_neg c_7, if_pos c_271, if_neg c_274, if_neg c_359, if_pos c_398, if_neg c_400, if_pos c_401, if_pos c_403, if_neg c_404, if_pos c_409, if_neg c_410] at hO; exact hO) d7_begin_364
                          · refine lv_bipush (v := (-7)) hx hb d7_begin_245 (by decide) ?_
                            refine lv_goto (tgt := 283) hx hb d7_begin_247 (by decide) ?_
                            refine lv_istore (lv' := [(6, .int (-7)), (7, .int x2), (5, .int 1), (4, .int (A 35 0 (x2.toNatClampNeg))), (3, .int 1), (0, .ref (ad 20 0)), (1, .int x1), (2, .int x2)]) hx hb d7_begin_283 hl (by decide) rfl (fun ls hl => ?_)
                            refine lv_iload hx hb d7_begin_285 (lv_at hl 0 rfl) ?_
                            refine lv_if_ge (tgt := 293) hx hb d7_begin_287 (by decide) (fun c => absurd c (by decide)) (fun _ => ?_)
                            refine lv_iload hx hb d7_begin_290 (lv_at hl 0 rfl) ?_
                            exact se_i C0 hB (by rw [if_neg c_1, if_neg c_3, if_neg c_4, if_neg c_7, if_pos c_271, if_neg c_274, if_neg c_359, if_pos c_398, if_neg c_400, if_pos c_401, if_pos c_403, if_neg c_404, if_neg c_409] at hO; exact hO) d7_begin_292
                        · refine lv_bipush (v := (-5)) hx hb d7_begin_194 (by decide) ?_
                          refine lv_istore (lv' := [(6, .int (-5)), (5, .int 1), (4, .int (A 35 0 (x2.toNatClampNeg))), (3, .int 1), (0, .ref (ad 20 0)), (1, .int x1), (2, .int x2)]) hx hb d7_begin_196 hl (by decide) rfl (fun ls hl => ?_)
                          refine lv_iload hx hb d7_begin_198 (lv_at hl 0 rfl) ?_
                          refine lv_if_ne (tgt := 219) hx hb d7_begin_200 (by decide) (fun _ => ?_) (fun c => absurd c (by decide))
                          refine lv_iload_n hx hb d7_begin_219 rfl (lv_at hl 5 rfl) ?_
                          refine lv_if_ne (tgt := 232) hx hb d7_begin_220 (by decide) (fun _ => ?_) (fun c => absurd c c_3)
                          refine lv_iload_n hx hb d7_begin_232 rfl (lv_at hl 6 rfl) ?_
                          refine lv_istore (lv' := [(7, .int x2), (6, .int (-5)), (5, .int 1), (4, .int (A 35 0 (x2.toNatClampNeg))), (3, .int 1), (0, .ref (ad 20 0)), (1, .int x1), (2, .int x2)]) hx hb d7_begin_233 hl (by decide) rfl (fun ls hl => ?_)
                          refine lv_iload hx hb d7_begin_235 (lv_at hl 1 rfl) ?_
                          refine lv_if_ne (tgt := 285) hx hb d7_begin_237 (by decide) (fun _ => ?_) (fun c => absurd c (by decide))
                          refine lv_iload hx hb d7_begin_285 (lv_at hl 1 rfl) ?_
                          refine lv_if_ge (tgt := 293) hx hb d7_begin_287 (by decide) (fun c => absurd c (by decide)) (fun _ => ?_)
                          refine lv_iload hx hb d7_begin_290 (lv_at hl 1 rfl) ?_
                          exact se_i C0 hB (by rw [if_neg c_1, if_neg c_3, if_neg c_4, if_neg c_7, if_pos c_271, if_neg c_274, if_neg c_359, if_pos c_398, if_neg c_400, if_pos c_401, if_pos c_403, if_pos c_404] at hO; exact hO) d7_begin_292
                      · refine lv_iload_n hx hb d7_begin_178 rfl (lv_at hl 5 rfl) ?_
                        refine lv_if_ne (tgt := 198) hx hb d7_begin_179 (by decide) (fun _ => ?_) (fun c => absurd c c_3)
                        refine lv_iload hx hb d7_begin_198 (lv_at hl 0 rfl) ?_
                        refine lv_if_ne (tgt := 219) hx hb d7_begin_200 (by decide) (fun c => absurd (by decide) c) (fun _ => ?_)
                        refine lv_iload_n hx hb d7_begin_203 rfl (lv_at hl 5 rfl) ?_
                        refine lv_if_ne (tgt := 219) hx hb d7_begin_204 (by decide) (fun _ => ?_) (fun c => absurd c c_3)
                        refine lv_iload_n hx hb d7_begin_219 rfl (lv_at hl 5 rfl) ?_
                        refine lv_if_ne (tgt := 232) hx hb d7_begin_220 (by decide) (fun _ => ?_) (fun c => absurd c c_3)
                        refine lv_iload_n hx hb d7_begin_232 rfl (lv_at hl 6 rfl) ?_
                        refine lv_istore (lv' := [(7, .int x2), (6, .int 0), (5, .int 1), (4, .int (A 35 0 (x2.toNatClampNeg))), (3, .int 1), (0, .ref (ad 20 0)), (1, .int x1), (2, .int x2)]) hx hb d7_begin_233 hl (by decide) rfl (fun ls hl => ?_)
                        refine lv_iload hx hb d7_begin_235 (lv_at hl 1 rfl) ?_
                        refine lv_if_ne (tgt := 285) hx hb d7_begin_237 (by decide) (fun c => absurd (by decide) c) (fun _ => ?_)
                        refine lv_iload hx hb d7_begin_240 (lv_at hl 0 rfl) ?_
                        refine lv_if_ge (tgt := 250) hx hb d7_begin_242 (by decide) (fun c_427 => ?_) (fun c_427 => ?_)
                        · refine lv_aload_n hx hb d7_begin_250 rfl (lv_at hl 5 rfl) ?_
                          refine sr_get (v := .int (S 20 0 34)) hx hb hw hown hK hB 34 (hX 20 (by decide)) cf_20 us7 (by decide) fl_7_130 (rfl) d7_begin_251 ?_
                          refine lv_sipush (v := 290) hx hb d7_begin_254 (by decide) ?_
                          refine lv_icmp_ge (tgt := 277) hx hb d7_begin_257 (by decide) (fun c_428 => ?_) (fun c_428 => ?_)
                          · refine lv_bipush (v := (-8)) hx hb d7_begin_277 (by decide) ?_
                            refine lv_goto (tgt := 283) hx hb d7_begin_279 (by decide) ?_
                            refine lv_istore (lv' := [(6, .int (-8)), (7, .int x2), (5, .int 1), (4, .int (A 35 0 (x2.toNatClampNeg))), (3, .int 1), (0, .ref (ad 20 0)), (1, .int x1), (2, .int x2)]) hx hb d7_begin_283 hl (by decide) rfl (fun ls hl => ?_)
                            refine lv_iload hx hb d7_begin_285 (lv_at hl 0 rfl) ?_
                            refine lv_if_ge (tgt := 293) hx hb d7_begin_287 (by decide) (fun c => absurd c (by decide)) (fun _ => ?_)
                            refine lv_iload hx hb d7_begin_290 (lv_at hl 0 rfl) ?_
                            exact se_i C0 hB (by rw [if_neg c_1, if_neg c_3, if_neg c_4, if_neg c_7, if_pos c_271, if_neg c_274, if_neg c_359, if_pos c_398, if_neg c_400, if_pos c_401, if_neg c_403, if_pos c_427, if_pos c_428] at hO; exact hO) d7_begin_292
                          · refine lv_iload_n hx hb d7_begin_260 rfl (lv_at hl 6 rfl) ?_
                            refine lv_iconst (v := 1) hx hb d7_begin_261 (by decide) ?_
                            refine lv_icmp_ne (tgt := 282) hx hb d7_begin_262 (by decide) (fun _ => ?_) (fun c => absurd c c_359)
                            refine lv_iconst (v := 0) hx hb d7_begin_282 (by decide) ?_
                            refine lv_istore (lv' := [(6, .int 0), (7, .int x2), (5, .int 1), (4, .int (A 35 0 (x2.toNatClampNeg))), (3, .int 1), (0, .ref (ad 20 0)), (1, .int x1), (2, .int x2)]) hx hb d7_begin_283 hl (by decide) rfl (fun ls hl => ?_)
                            refine lv_iload hx hb d7_begin_285 (lv_at hl 0 rfl) ?_
                            refine lv_if_ge (tgt := 293) hx hb d7_begin_287 (by decide) (fun _ => ?_) (fun c => absurd (by decide) c)
                            refine lv_aload_n hx hb d7_begin_293 rfl (lv_at hl 5 rfl) ?_
                            refine lv_iload_n hx hb d7_begin_294 rfl (lv_at hl 6 rfl) ?_
                            refine sr_put hx hb hw hown hK hB 27 (hX 20 (by decide)) cf_20 us7 tk7 nm7 (by decide) fl_7_81 rfl rfl rfl rfl d7_begin_295 (fun H locs hB => ?_)
                            refine lv_aload_n hx hb d7_begin_298 rfl (lv_at hl 5 rfl) ?_
                            refine lv_iload hx hb d7_begin_299 (lv_at hl 1 rfl) ?_
                            refine sr_put hx hb hw hown hK hB 28 (hX 20 (by decide)) cf_20 us7 tk7 nm7 (by decide) fl_7_153 rfl rfl rfl rfl d7_begin_301 (fun H locs hB => ?_)
                            refine lv_aload_n hx hb d7_begin_304 rfl (lv_at hl 5 rfl) ?_
                            refine lv_iload_n hx hb d7_begin_305 rfl (lv_at hl 6 rfl) ?_
                            refine lv_if_ne (tgt := 313) hx hb d7_begin_306 (by decide) (fun _ => ?_) (fun c => absurd c c_3)
                            refine lv_iconst (v := (-1)) hx hb d7_begin_313 (by decide) ?_
                            refine sr_put hx hb hw hown hK hB 29 (hX 20 (by decide)) cf_20 us7 tk7 nm7 (by decide) fl_7_124 rfl rfl rfl rfl d7_begin_314 (fun H locs hB => ?_)
                            refine lv_aload_n hx hb d7_begin_317 rfl (lv_at hl 5 rfl) ?_
                            refine lv_aload_n hx hb d7_begin_318 rfl (lv_at hl 5 rfl) ?_
                            refine sr_get (v := .int (S 20 0 0)) hx hb hw hown hK hB 0 (hX 20 (by decide)) cf_20 us7 (by decide) fl_7_100 (rfl) d7_begin_319 ?_
                            refine sr_put hx hb hw hown hK hB 30 (hX 20 (by decide)) cf_20 us7 tk7 nm7 (by decide) fl_7_156 rfl rfl rfl rfl d7_begin_322 (fun H locs hB => ?_)
                            refine lv_aload_n hx hb d7_begin_325 rfl (lv_at hl 5 rfl) ?_
                            refine lv_iload_n hx hb d7_begin_326 rfl (lv_at hl 6 rfl) ?_
                            refine lv_iconst (v := 2) hx hb d7_begin_327 (by decide) ?_
                            refine lv_icmp_eq (tgt := 336) hx hb d7_begin_328 (by decide) (fun c_433 => ?_) (fun c_433 => ?_)
                            · refine lv_iconst (v := 1) hx hb d7_begin_336 (by decide) ?_
                              refine lv_goto (tgt := 341) hx hb d7_begin_337 (by decide) ?_
                              refine sr_put hx hb hw hown hK hB 31 (hX 20 (by decide)) cf_20 us7 tk7 nm7 (by decide) fl_7_159 rfl rfl rfl rfl d7_begin_341 (fun H locs hB => ?_)
                              refine lv_aload_n hx hb d7_begin_344 rfl (lv_at hl 5 rfl) ?_
                              refine lv_iconst (v := 0) hx hb d7_begin_345 (by decide) ?_
                              refine sr_put hx hb hw hown hK hB 32 (hX 20 (by decide)) cf_20 us7 tk7 nm7 (by decide) fl_7_163 rfl rfl rfl rfl d7_begin_346 (fun H locs hB => ?_)
                              refine lv_aload_n hx hb d7_begin_349 rfl (lv_at hl 5 rfl) ?_
                              refine lv_iconst (v := 0) hx hb d7_begin_350 (by decide) ?_
                              refine sr_put hx hb hw hown hK hB 33 (hX 20 (by decide)) cf_20 us7 tk7 nm7 (by decide) fl_7_166 rfl rfl rfl rfl d7_begin_351 (fun H locs hB => ?_)
                              refine lv_aload_n hx hb d7_begin_354 rfl (lv_at hl 5 rfl) ?_
                              refine lv_aload_n hx hb d7_begin_355 rfl (lv_at hl 5 rfl) ?_
                              refine sr_get (v := .int (S 20 0 0)) hx hb hw hown hK hB 0 (hX 20 (by decide)) cf_20 us7 (by decide) fl_7_100 (rfl) d7_begin_356 ?_
                              refine sr_put hx hb hw hown hK hB 7 (hX 20 (by decide)) cf_20 us7 tk7 nm7 (by decide) fl_7_114 rfl rfl rfl rfl d7_begin_359 (fun H locs hB => ?_)
                              refine lv_iload hx hb d7_begin_362 (lv_at hl 1 rfl) ?_
                              exact se_i C0 hB (by rw [if_neg c_1, if_neg c_3, if_neg c_4, if_neg c_7, if_pos c_271, if_neg c_274, if_neg c_359, if_pos c_398, if_neg c_400, if_pos c_401, if_neg c_403, if_pos c_427, if_neg c_428, if_pos c_433] at hO; exact hO) d7_begin_364
                            · refine lv_iload hx hb d7_begin_331 (lv_at hl 2 rfl) ?_
                              refine lv_if_eq (tgt := 340) hx hb d7_begin_333 (by decide) (fun c => absurd c (by decide)) (fun _ => ?_)
                              refine lv_iconst (v := 1) hx hb d7_begin_336 (by decide) ?_
                              refine lv_goto (tgt := 341) hx hb d7_begin_337 (by decide) ?_
                              refine sr_put hx hb hw hown hK hB 31 (hX 20 (by decide)) cf_20 us7 tk7 nm7 (by decide) fl_7_159 rfl rfl rfl rfl d7_begin_341 (fun H locs hB => ?_)
                              refine lv_aload_n hx hb d7_begin_344 rfl (lv_at hl 5 rfl) ?_
                              refine lv_iconst (v := 0) hx hb d7_begin_345 (by decide) ?_
                              refine sr_put hx hb hw hown hK hB 32 (hX 20 (by decide)) cf_20 us7 tk7 nm7 (by decide) fl_7_163 rfl rfl rfl rfl d7_begin_346 (fun H locs hB => ?_)
                              refine lv_aload_n hx hb d7_begin_349 rfl (lv_at hl 5 rfl) ?_
                              refine lv_iconst (v := 0) hx hb d7_begin_350 (by decide) ?_
                              refine sr_put hx hb hw hown hK hB 33 (hX 20 (by decide)) cf_20 us7 tk7 nm7 (by decide) fl_7_166 rfl rfl rfl rfl d7_begin_351 (fun H locs hB => ?_)
                              refine lv_aload_n hx hb d7_begin_354 rfl (lv_at hl 5 rfl) ?_
                              refine lv_aload_n hx hb d7_begin_355 rfl (lv_at hl 5 rfl) ?_
                              refine sr_get (v := .int (S 20 0 0)) hx hb hw hown hK hB 0 (hX 20 (by decide)) cf_20 us7 (by decide) fl_7_100 (rfl) d7_begin_356 ?_
                              refine sr_put hx hb hw hown hK hB 7 (hX 20 (by decide)) cf_20 us7 tk7 nm7 (by decide) fl_7_114 rfl rfl rfl rfl d7_begin_359 (fun H locs hB => ?_)
                              refine lv_iload hx hb d7_begin_362 (lv_at hl 1 rfl) ?_
                              exact se_i C0 hB (by rw [if_neg c_1, if_neg c_3, if_neg c_4, if_neg c_7, if_pos c_271, if_neg c_274, if_neg c_359, if_pos c_398, if_neg c_400, if_pos c_401, if_neg c_403, if_pos c_427, if_neg c_428, if_neg c_433] at hO; exact hO) d7_begin_364
                        · refine lv_bipush (v := (-7)) hx hb d7_begin_245 (by decide) ?_
                          refine lv_goto (tgt := 283) hx hb d7_begin_247 (by decide) ?_
                          refine lv_istore (lv' := [(6, .int (-7)), (7, .int x2), (5, .int 1), (4, .int (A 35 0 (x2.toNatClampNeg))), (3, .int 1), (0, .ref (ad 20 0)), (1, .int x1), (2, .int x2)]) hx hb d7_begin_283 hl (by decide) rfl (fun ls hl => ?_)
                          refine lv_iload hx hb d7_begin_285 (lv_at hl 0 rfl) ?_
                          refine lv_if_ge (tgt := 293) hx hb d7_begin_287 (by decide) (fun c => absurd c (by decide)) (fun _ => ?_)
                          refine lv_iload hx hb d7_begin_290 (lv_at hl 0 rfl) ?_
                          exact se_i C0 hB (by rw [if_neg c_1, if_neg c_3, if_neg c_4, if_neg c_7, if_pos c_271, if_neg c_274, if_neg c_359, if_pos c_398, if_neg c_400, if_pos c_401, if_neg c_403, if_neg c_427] at hO; exact hO) d7_begin_292
                    · refine lv_bipush (v := (-4)) hx hb d7_begin_160 (by decide) ?_
                      refine lv_goto (tgt := 166) hx hb d7_begin_162 (by decide) ?_
                      refine lv_istore (lv' := [(6, .int (-4)), (5, .int 1), (4, .int (A 35 0 (x2.toNatClampNeg))), (3, .int 1), (0, .ref (ad 20 0)), (1, .int x1), (2, .int x2)]) hx hb d7_begin_166 hl (by decide) rfl (fun ls hl => ?_)
                      refine lv_iload hx hb d7_begin_168 (lv_at hl 0 rfl) ?_
                      refine lv_if_ne (tgt := 198) hx hb d7_begin_170 (by decide) (fun _ => ?_) (fun c => absurd c (by decide))
                      refine lv_iload hx hb d7_begin_198 (lv_at hl 0 rfl) ?_
                      refine lv_if_ne (tgt := 219) hx hb d7_begin_200 (by decide) (fun _ => ?_) (fun c => absurd c (by decide))
                      refine lv_iload_n hx hb d7_begin_219 rfl (lv_at hl 5 rfl) ?_
                      refine lv_if_ne (tgt := 232) hx hb d7_begin_220 (by decide) (fun _ => ?_) (fun c => absurd c c_3)
                      refine lv_iload_n hx hb d7_begin_232 rfl (lv_at hl 6 rfl) ?_
                      refine lv_istore (lv' := [(7, .int x2), (6, .int (-4)), (5, .int 1), (4, .int (A 35 0 (x2.toNatClampNeg))), (3, .int 1), (0, .ref (ad 20 0)), (1, .int x1), (2, .int x2)]) hx hb d7_begin_233 hl (by decide) rfl (fun ls hl => ?_)
                      refine lv_iload hx hb d7_begin_235 (lv_at hl 1 rfl) ?_
                      refine lv_if_ne (tgt := 285) hx hb d7_begin_237 (by decide) (fun _ => ?_) (fun c => absurd c (by decide))
                      refine lv_iload hx hb d7_begin_285 (lv_at hl 1 rfl) ?_
                      refine lv_if_ge (tgt := 293) hx hb d7_begin_287 (by decide) (fun c => absurd c (by decide)) (fun _ => ?_)
                      refine lv_iload hx hb d7_begin_290 (lv_at hl 1 rfl) ?_
                      exact se_i C0 hB (by rw [if_neg c_1, if_neg c_3, if_neg c_4, if_neg c_7, if_pos c_271, if_neg c_274, if_neg c_359, if_pos c_398, if_neg c_400, if_neg c_401] at hO; exact hO) d7_begin_292
                  · refine lv_bipush (v := (-3)) hx hb d7_begin_148 (by decide) ?_
                    refine lv_goto (tgt := 166) hx hb d7_begin_150 (by decide) ?_
                    refine lv_istore (lv' := [(6, .int (-3)), (5, .int 1), (4, .int (A 35 0 (x2.toNatClampNeg))), (3, .int 1), (0, .ref (ad 20 0)), (1, .int x1), (2, .int x2)]) hx hb d7_begin_166 hl (by decide) rfl (fun ls hl => ?_)
                    refine lv_iload hx hb d7_begin_168 (lv_at hl 0 rfl) ?_
                    refine lv_if_ne (tgt := 198) hx hb d7_begin_170 (by decide) (fun _ => ?_) (fun c => absurd c (by decide))
                    refine lv_iload hx hb d7_begin_198 (lv_at hl 0 rfl) ?_
                    refine lv_if_ne (tgt := 219) hx hb d7_begin_200 (by decide) (fun _ => ?_) (fun c => absurd c (by decide))
                    refine lv_iload_n hx hb d7_begin_219 rfl (lv_at hl 5 rfl) ?_
                    refine lv_if_ne (tgt := 232) hx hb d7_begin_220 (by decide) (fun _ => ?_) (fun c => absurd c c_3)
                    refine lv_iload_n hx hb d7_begin_232 rfl (lv_at hl 6 rfl) ?_
                    refine lv_istore (lv' := [(7, .int x2), (6, .int (-3)), (5, .int 1), (4, .int (A 35 0 (x2.toNatClampNeg))), (3, .int 1), (0, .ref (ad 20 0)), (1, .int x1), (2, .int x2)]) hx hb d7_begin_233 hl (by decide) rfl (fun ls hl => ?_)
                    refine lv_iload hx hb d7_begin_235 (lv_at hl 1 rfl) ?_
                    refine lv_if_ne (tgt := 285) hx hb d7_begin_237 (by decide) (fun _ => ?_) (fun c => absurd c (by decide))
                    refine lv_iload hx hb d7_begin_285 (lv_at hl 1 rfl) ?_
                    refine lv_if_ge (tgt := 293) hx hb d7_begin_287 (by decide) (fun c => absurd c (by decide)) (fun _ => ?_)
                    refine lv_iload hx hb d7_begin_290 (lv_at hl 1 rfl) ?_
                    exact se_i C0 hB (by rw [if_neg c_1, if_neg c_3, if_neg c_4, if_neg c_7, if_pos c_271, if_neg c_274, if_neg c_359, if_pos c_398, if_pos c_400] at hO; exact hO) d7_begin_292
                · refine lv_bipush (v := (-2)) hx hb d7_begin_112 (by decide) ?_
                  refine lv_goto (tgt := 166) hx hb d7_begin_114 (by decide) ?_
                  refine lv_istore (lv' := [(6, .int (-2)), (5, .int 1), (4, .int (A 35 0 (x2.toNatClampNeg))), (3, .int 1), (0, .ref (ad 20 0)), (1, .int x1), (2, .int x2)]) hx hb d7_begin_166 hl (by decide) rfl (fun ls hl => ?_)
                  refine lv_iload hx hb d7_begin_168 (lv_at hl 0 rfl) ?_
                  refine lv_if_ne (tgt := 198) hx hb d7_begin_170 (by decide) (fun _ => ?_) (fun c => absurd c (by decide))
                  refine lv_iload hx hb d7_begin_198 (lv_at hl 0 rfl) ?_
                  refine lv_if_ne (tgt := 219) hx hb d7_begin_200 (by decide) (fun _ => ?_) (fun c => absurd c (by decide))
                  refine lv_iload_n hx hb d7_begin_219 rfl (lv_at hl 5 rfl) ?_
                  refine lv_if_ne (tgt := 232) hx hb d7_begin_220 (by decide) (fun _ => ?_) (fun c => absurd c c_3)
                  refine lv_iload_n hx hb d7_begin_232 rfl (lv_at hl 6 rfl) ?_
                  refine lv_istore (lv' := [(7, .int x2), (6, .int (-2)), (5, .int 1), (4, .int (A 35 0 (x2.toNatClampNeg))), (3, .int 1), (0, .ref (ad 20 0)), (1, .int x1), (2, .int x2)]) hx hb d7_begin_233 hl (by decide) rfl (fun ls hl => ?_)
                  refine lv_iload hx hb d7_begin_235 (lv_at hl 1 rfl) ?_
                  refine lv_if_ne (tgt := 285) hx hb d7_begin_237 (by decide) (fun _ => ?_) (fun c => absurd c (by decide))
                  refine lv_iload hx hb d7_begin_285 (lv_at hl 1 rfl) ?_
                  refine lv_if_ge (tgt := 293) hx hb d7_begin_287 (by decide) (fun c => absurd c (by decide)) (fun _ => ?_)
                  refine lv_iload hx hb d7_begin_290 (lv_at hl 1 rfl) ?_
                  exact se_i C0 hB (by rw [if_neg c_1, if_neg c_3, if_neg c_4, if_neg c_7, if_pos c_271, if_neg c_274, if_neg c_359, if_neg c_398] at hO; exact hO) d7_begin_292
          · refine lv_iconst (v := (-1)) hx hb d7_begin_55 (by decide) ?_
            exact se_i C0 hB (by rw [if_neg c_1, if_neg c_3, if_neg c_4, if_neg c_7, if_neg c_271] at hO; exact hO) d7_begin_56
    · refine lv_aload_n hx hb d7_begin_13 rfl (lv_at hl 0 rfl) ?_
      refine lv_iload_n hx hb d7_begin_14 rfl (lv_at hl 2 rfl) ?_
      refine sr_vp C0 hB (m7_hasOrder hX x2 ) (hX 20 (by decide)) cf_20 ml_7_121 im_7_hasOrder se_7_hasOrder in_7 cd_7_hasOrder hd7_hasOrder ⟨⟨rfl, rfl⟩, by decide, by decide⟩ ⟨Nat.zero_le _, Nat.zero_le _⟩ hl.1 rfl (Nat.le_of_ble_eq_true rfl) d7_begin_15 ?_
      refine lv_if_eq (tgt := 35) hx hb d7_begin_18 (by decide) (fun c_451 => ?_) (fun c_451 => ?_)
      · refine lv_iconst (v := 0) hx hb d7_begin_35 (by decide) ?_
        refine lv_istore_n (lv' := [(3, .int 0), (0, .ref (ad 20 0)), (1, .int x1), (2, .int x2)]) hx hb d7_begin_36 rfl hl (by decide) rfl (fun ls hl => ?_)
        refine lv_iload_n hx hb d7_begin_37 rfl (lv_at hl 0 rfl) ?_
        refine lv_if_eq (tgt := 55) hx hb d7_begin_38 (by decide) (fun _ => ?_) (fun c => absurd (by decide) c)
        refine lv_iconst (v := (-1)) hx hb d7_begin_55 (by decide) ?_
        exact se_i C0 hB (by rw [if_neg c_1, if_pos c_3, if_pos c_451] at hO; exact hO) d7_begin_56
      · refine lv_goto (tgt := 31) hx hb d7_begin_21 (by decide) ?_
        refine lv_iconst (v := 1) hx hb d7_begin_31 (by decide) ?_
        refine lv_goto (tgt := 36) hx hb d7_begin_32 (by decide) ?_
        refine lv_istore_n (lv' := [(3, .int 1), (0, .ref (ad 20 0)), (1, .int x1), (2, .int x2)]) hx hb d7_begin_36 rfl hl (by decide) rfl (fun ls hl => ?_)
        refine lv_iload_n hx hb d7_begin_37 rfl (lv_at hl 0 rfl) ?_
        refine lv_if_eq (tgt := 55) hx hb d7_begin_38 (by decide) (fun c => absurd c (by decide)) (fun _ => ?_)
        refine lv_iload_n hx hb d7_begin_41 rfl (lv_at hl 2 rfl) ?_
        refine lv_iconst (v := 1) hx hb d7_begin_42 (by decide) ?_
        refine lv_icmp_le (tgt := 57) hx hb d7_begin_43 (by decide) (fun _ => ?_) (fun c => absurd (by rw [c_3]; decide) c)
        refine lv_iload_n hx hb d7_begin_57 rfl (lv_at hl 2 rfl) ?_
        refine lv_if_ne (tgt := 70) hx hb d7_begin_58 (by decide) (fun c => absurd c_3 c) (fun _ => ?_)
        refine lv_aload_n hx hb d7_begin_61 rfl (lv_at hl 1 rfl) ?_
        refine sr_get (v := .ref (ad 42 0)) hx hb hw hown hK hB 21 (hX 20 (by decide)) cf_20 us7 (by decide) fl_7_63 (rfl) d7_begin_62 ?_
        refine lv_iload_n hx hb d7_begin_65 rfl (lv_at hl 3 rfl) ?_
        refine sr_iald (v := A 42 0 (x2.toNatClampNeg)) hx hb hK hB (hX 42 (by decide)) rfl rfl (by (refine vp_in_iff.mpr ?_); (show 0 ≤ x2.toInt ∧ x2.toInt < ((60 : Nat) : Int)); (have a1 := sub1_i (x := S 20 0 20) (by omega)); (have kc_451 := hasOrder_t c_451);  omega) d7_begin_66 (rfl) ?_
        refine lv_goto (tgt := 76) hx hb d7_begin_67 (by decide) ?_
        refine lv_istore (lv' := [(4, .int (A 42 0 (x2.toNatClampNeg))), (3, .int 1), (0, .ref (ad 20 0)), (1, .int x1), (2, .int x2)]) hx hb d7_begin_76 hl (by decide) rfl (fun ls hl => ?_)
        refine lv_iload hx hb d7_begin_78 (lv_at hl 0 rfl) ?_
        refine lv_if_lt (tgt := 102) hx hb d7_begin_80 (by decide) (fun c_456 => ?_) (fun c_456 => ?_)
        · refine lv_iconst (v := 0) hx hb d7_begin_102 (by decide) ?_
          refine lv_istore (lv' := [(5, .int 0), (4, .int (A 42 0 (x2.toNatClampNeg))), (3, .int 1), (0, .ref (ad 20 0)), (1, .int x1), (2, .int x2)]) hx hb d7_begin_103 hl (by decide) rfl (fun ls hl => ?_)
          refine lv_aload_n hx hb d7_begin_105 rfl (lv_at hl 3 rfl) ?_
          refine sr_get (v := .int (S 20 0 6)) hx hb hw hown hK hB 6 (hX 20 (by decide)) cf_20 us7 (by decide) fl_7_26 (rfl) d7_begin_106 ?_
          refine lv_if_ge (tgt := 117) hx hb d7_begin_109 (by decide) (fun c_457 => ?_) (fun c_457 => ?_)
          · refine lv_iload_n hx hb d7_begin_117 rfl (lv_at hl 4 rfl) ?_
            refine lv_iconst (v := 1) hx hb d7_begin_118 (by decide) ?_
            refine lv_icmp_ne (tgt := 135) hx hb d7_begin_119 (by decide) (fun _ => ?_) (fun c => absurd c (by rw [c_3]; decide))
            refine lv_aload_n hx hb d7_begin_135 rfl (lv_at hl 3 rfl) ?_
            refine sr_get (v := .ref (ad 23 0)) hx hb hw hown hK hB 2 (hX 20 (by decide)) cf_20 us7 (by decide) fl_7_13 (rfl) d7_begin_136 ?_
            refine lv_aload_n hx hb d7_begin_139 rfl (lv_at hl 3 rfl) ?_
            refine sr_get (v := .int (S 20 0 6)) hx hb hw hown hK hB 6 (hX 20 (by decide)) cf_20 us7 (by decide) fl_7_26 (rfl) d7_begin_140 ?_
            refine sr_iald (v := A 23 0 ((S 20 0 6).toNatClampNeg)) hx hb hK hB (hX 23 (by decide)) rfl rfl (by (refine vp_in_iff.mpr ?_); (show 0 ≤ (S 20 0 6).toInt ∧ (S 20 0 6).toInt < ((16 : Nat) : Int)); (have a1 := sub1_i (x := S 20 0 20) (by omega)); (have kc_451 := hasOrder_t c_451); (have kc_457 := le_i c_457); (have l0 : (0 : Int32).toInt = 0 := rfl); (have l20 : (20 : Int32).toInt = 20 := rfl); (have l6 : (6 : Int32).toInt = 6 := rfl);  omega) d7_begin_143 (rfl) ?_
            refine lv_iconst (v := 2) hx hb d7_begin_144 (by decide) ?_
            refine lv_icmp_ne (tgt := 153) hx hb d7_begin_145 (by decide) (fun c_459 => ?_) (fun c_459 => ?_)
            · refine lv_aload_n hx hb d7_begin_153 rfl (lv_at hl 3 rfl) ?_
              refine sr_get (v := .int (S 20 0 27)) hx hb hw hown hK hB 27 (hX 20 (by decide)) cf_20 us7 (by decide) fl_7_81 (rfl) d7_begin_154 ?_
              refine lv_if_lt (tgt := 165) hx hb d7_begin_157 (by decide) (fun c_460 => ?_) (fun c_460 => ?_)
              · refine lv_iconst (v := 0) hx hb d7_begin_165 (by decide) ?_
                refine lv_istore (lv' := [(6, .int 0), (5, .int 0), (4, .int (A 42 0 (x2.toNatClampNeg))), (3, .int 1), (0, .ref (ad 20 0)), (1, .int x1), (2, .int x2)]) hx hb d7_begin_166 hl (by decide) rfl (fun ls hl => ?_)
                refine lv_iload hx hb d7_begin_168 (lv_at hl 0 rfl) ?_
                refine lv_if_ne (tgt := 198) hx hb d7_begin_170 (by decide) (fun c => absurd (by decide) c) (fun _ => ?_)
                refine lv_iload_n hx hb d7_begin_173 rfl (lv_at hl 5 rfl) ?_
                refine lv_iconst (v := 3) hx hb d7_begin_174 (by decide) ?_
                refine lv_icmp_eq (tgt := 187) hx hb d7_begin_175 (by decide) (fun c => absurd c (by rw [c_3]; decide)) (fun _ => ?_)
                refine lv_iload_n hx hb d7_begin_178 rfl (lv_at hl 5 rfl) ?_
                refine lv_if_ne (tgt := 198) hx hb d7_begin_179 (by decide) (fun c => absurd c_3 c) (fun _ => ?_)
                refine lv_iload hx hb d7_begin_182 (lv_at hl 1 rfl) ?_
                refine lv_if_eq (tgt := 198) hx hb d7_begin_184 (by decide) (fun _ => ?_) (fun c => absurd (by decide) c)
                refine lv_iload hx hb d7_begin_198 (lv_at hl 0 rfl) ?_
                refine lv_if_ne (tgt := 219) hx hb d7_begin_200 (by decide) (fun c => absurd (by decide) c) (fun _ => ?_)
                refine lv_iload_n hx hb d7_begin_203 rfl (lv_at hl 5 rfl) ?_
                refine lv_if_ne (tgt := 219) hx hb d7_begin_204 (by decide) (fun c => absurd c_3 c) (fun _ => ?_)
                refine lv_aload_n hx hb d7_begin_207 rfl (lv_at hl 4 rfl) ?_
                refine lv_iload_n hx hb d7_begin_208 rfl (lv_at hl 6 rfl) ?_
                refine sr_vp C0 hB (m7_mayTake hX x2 (by (have a1 := sub1_i (x := S 20 0 20) (by omega)); (have kc_1 := in_t c_1); (have kc_3 := congrArg Int32.toInt c_3); (have kc_451 := hasOrder_t c_451); (have l0 : (0 : Int32).toInt = 0 := rfl); (have l3 : (3 : Int32).toInt = 3 := rfl);  first | assumption | omega)) (hX 20 (by decide)) cf_20 ml_7_147 im_7_mayTake se_7_mayTake in_7 cd_7_mayTake hd7_mayTake ⟨⟨rfl, rfl⟩, by decide, by decide⟩ ⟨Nat.zero_le _, Nat.zero_le _⟩ hl.1 rfl (Nat.le_of_ble_eq_true rfl) d7_begin_209 ?_
                refine lv_if_ne (tgt := 219) hx hb d7_begin_212 (by decide) (fun c_467 => ?_) (fun c_467 => ?_)
                · refine lv_iload_n hx hb d7_begin_219 rfl (lv_at hl 5 rfl) ?_
                  refine lv_if_ne (tgt := 232) hx hb d7_begin_220 (by decide) (fun c => absurd c_3 c) (fun _ => ?_)
                  refine lv_aload_n hx hb d7_begin_223 rfl (lv_at hl 4 rfl) ?_
                  refine lv_iload hx hb d7_begin_224 (lv_at hl 2 rfl) ?_
                  refine sr_vp C0 hB (m7_chosen hX (A 42 0 (x2.toNatClampNeg)) (by (have a1 := sub1_i (x := S 20 0 20) (by omega)); (have kc_451 := hasOrder_t c_451); (have kc_456 := lt_i c_456); (have l0 : (0 : Int32).toInt = 0 := rfl); (have l42 : (42 : Int32).toInt = 42 := rfl);  first | assumption | omega)) (hX 20 (by decide)) cf_20 ml_7_150 im_7_chosen se_7_chosen in_7 cd_7_chosen hd7_chosen ⟨⟨rfl, rfl⟩, by decide, by decide⟩ ⟨Nat.zero_le _, Nat.zero_le _⟩ hl.1 rfl (Nat.le_of_ble_eq_true rfl) d7_begin_226 ?_
                  refine lv_goto (tgt := 233) hx hb d7_begin_229 (by decide) ?_
                  refine lv_istore (lv' := [(7, .int (V7_chosen S A G (A 42 0 (x2.toNatClampNeg)))), (6, .int 0), (5, .int 0), (4, .int (A 42 0 (x2.toNatClampNeg))), (3, .int 1), (0, .ref (ad 20 0)), (1, .int x1), (2, .int x2)]) hx hb d7_begin_233 hl (by decide) rfl (fun ls hl => ?_)
                  refine lv_iload hx hb d7_begin_235 (lv_at hl 1 rfl) ?_
                  refine lv_if_ne (tgt := 285) hx hb d7_begin_237 (by decide) (fun c => absurd (by decide) c) (fun _ => ?_)
                  refine lv_iload hx hb d7_begin_240 (lv_at hl 0 rfl) ?_
                  refine lv_if_ge (tgt := 250) hx hb d7_begin_242 (by decide) (fun c_470 => ?_) (fun c_470 => ?_)
                  · refine lv_aload_n hx hb d7_begin_250 rfl (lv_at hl 5 rfl) ?_
                    refine sr_get (v := .int (S 20 0 34)) hx hb hw hown hK hB 34 (hX 20 (by decide)) cf_20 us7 (by decide) fl_7_130 (rfl) d7_begin_251 ?_
                    refine lv_sipush (v := 290) hx hb d7_begin_254 (by decide) ?_
                    refine lv_icmp_ge (tgt := 277) hx hb d7_begin_257 (by decide) (fun c_471 => ?_) (fun c_471 => ?_)
                    · refine lv_bipush (v := (-8)) hx hb d7_begin_277 (by decide) ?_
                      refine lv_goto (tgt := 283) hx hb d7_begin_279 (by decide) ?_
                      refine lv_istore (lv' := [(6, .int (-8)), (7, .int (V7_chosen S A G (A 42 0 (x2.toNatClampNeg)))), (5, .int 0), (4, .int (A 42 0 (x2.toNatClampNeg))), (3, .int 1), (0, .ref (ad 20 0)), (1, .int x1), (2, .int x2)]) hx hb d7_begin_283 hl (by decide) rfl (fun ls hl => ?_)
                      refine lv_iload hx hb d7_begin_285 (lv_at hl 0 rfl) ?_
                      refine lv_if_ge (tgt := 293) hx hb d7_begin_287 (by decide) (fun c => absurd c (by decide)) (fun _ => ?_)
                      refine lv_iload hx hb d7_begin_290 (lv_at hl 0 rfl) ?_
                      exact se_i C0 hB (by rw [if_neg c_1, if_pos c_3, if_neg c_451, if_pos c_456, if_pos c_457, if_neg c_459, if_pos c_460, if_neg c_467, if_pos c_470, if_pos c_471] at hO; exact hO) d7_begin_292
                    · refine lv_iload_n hx hb d7_begin_260 rfl (lv_at hl 6 rfl) ?_
                      refine lv_iconst (v := 1) hx hb d7_begin_261 (by decide) ?_
                      refine lv_icmp_ne (tgt := 282) hx hb d7_begin_262 (by decide) (fun _ => ?_) (fun c => absurd c (by rw [c_3]; decide))
                      refine lv_iconst (v := 0) hx hb d7_begin_282 (by decide) ?_
                      refine lv_istore (lv' := [(6, .int 0), (7, .int (V7_chosen S A G (A 42 0 (x2.toNatClampNeg)))), (5, .int 0), (4, .int (A 42 0 (x2.toNatClampNeg))), (3, .int 1), (0, .ref (ad 20 0)), (1, .int x1), (2, .int x2)]) hx hb d7_begin_283 hl (by decide) rfl (fun ls hl => ?_)
                      refine lv_iload hx hb d7_begin_285 (lv_at hl 0 rfl) ?_
                      refine lv_if_ge (tgt := 293) hx hb d7_begin_287 (by decide) (fun _ => ?_) (fun c => absurd (by decide) c)
                      refine lv_aload_n hx hb d7_begin_293 rfl (lv_at hl 5 rfl) ?_
                      refine lv_iload_n hx hb d7_begin_294 rfl (lv_at hl 6 rfl) ?_
                      refine sr_put hx hb hw hown hK hB 27 (hX 20 (by decide)) cf_20 us7 tk7 nm7 (by decide) fl_7_81 rfl rfl rfl rfl d7_begin_295 (fun H locs hB => ?_)
                      refine lv_aload_n hx hb d7_begin_298 rfl (lv_at hl 5 rfl) ?_
                      refine lv_iload hx hb d7_begin_299 (lv_at hl 1 rfl) ?_
                      refine sr_put hx hb hw hown hK hB 28 (hX 20 (by decide)) cf_20 us7 tk7 nm7 (by decide) fl_7_153 rfl rfl rfl rfl d7_begin_301 (fun H locs hB => ?_)
                      refine lv_aload_n hx hb d7_begin_304 rfl (lv_at hl 5 rfl) ?_
                      refine lv_iload_n hx hb d7_begin_305 rfl (lv_at hl 6 rfl) ?_
                      refine lv_if_ne (tgt := 313) hx hb d7_begin_306 (by decide) (fun c => absurd c_3 c) (fun _ => ?_)
                      refine lv_iload_n hx hb d7_begin_309 rfl (lv_at hl 7 rfl) ?_
                      refine lv_goto (tgt := 314) hx hb d7_begin_310 (by decide) ?_
                      refine sr_put hx hb hw hown hK hB 29 (hX 20 (by decide)) cf_20 us7 tk7 nm7 (by decide) fl_7_124 rfl rfl rfl rfl d7_begin_314 (fun H locs hB => ?_)
                      refine lv_aload_n hx hb d7_begin_317 rfl (lv_at hl 5 rfl) ?_
                      refine lv_aload_n hx hb d7_begin_318 rfl (lv_at hl 5 rfl) ?_
                      refine sr_get (v := .int (S 20 0 0)) hx hb hw hown hK hB 0 (hX 20 (by decide)) cf_20 us7 (by decide) fl_7_100 (rfl) d7_begin_319 ?_
                      refine sr_put hx hb hw hown hK hB 30 (hX 20 (by decide)) cf_20 us7 tk7 nm7 (by decide) fl_7_156 rfl rfl rfl rfl d7_begin_322 (fun H locs hB => ?_)
                      refine lv_aload_n hx hb d7_begin_325 rfl (lv_at hl 5 rfl) ?_
                      refine lv_iload_n hx hb d7_begin_326 rfl (lv_at hl 6 rfl) ?_
                      refine lv_iconst (v := 2) hx hb d7_begin_327 (by decide) ?_
                      refine lv_icmp_eq (tgt := 336) hx hb d7_begin_328 (by decide) (fun c => absurd c (by rw [c_3]; decide)) (fun _ => ?_)
                      refine lv_iload hx hb d7_begin_331 (lv_at hl 2 rfl) ?_
                      refine lv_if_eq (tgt := 340) hx hb d7_begin_333 (by decide) (fun _ => ?_) (fun c => absurd (by decide) c)
                      refine lv_iconst (v := 0) hx hb d7_begin_340 (by decide) ?_
                      refine sr_put hx hb hw hown hK hB 31 (hX 20 (by decide)) cf_20 us7 tk7 nm7 (by decide) fl_7_159 rfl rfl rfl rfl d7_begin_341 (fun H locs hB => ?_)
                      refine lv_aload_n hx hb d7_begin_344 rfl (lv_at hl 5 rfl) ?_
                      refine lv_iconst (v := 0) hx hb d7_begin_345 (by decide) ?_
                      refine sr_put hx hb hw hown hK hB 32 (hX 20 (by decide)) cf_20 us7 tk7 nm7 (by decide) fl_7_163 rfl rfl rfl rfl d7_begin_346 (fun H locs hB => ?_)
                      refine lv_aload_n hx hb d7_begin_349 rfl (lv_at hl 5 rfl) ?_
                      refine lv_iconst (v := 0) hx hb d7_begin_350 (by decide) ?_
                      refine sr_put hx hb hw hown hK hB 33 (hX 20 (by decide)) cf_20 us7 tk7 nm7 (by decide) fl_7_166 rfl rfl rfl rfl d7_begin_351 (fun H locs hB => ?_)
                      refine lv_aload_n hx hb d7_begin_354 rfl (lv_at hl 5 rfl) ?_
                      refine lv_aload_n hx hb d7_begin_355 rfl (lv_at hl 5 rfl) ?_
                      refine sr_get (v := .int (S 20 0 0)) hx hb hw hown hK hB 0 (hX 20 (by decide)) cf_20 us7 (by decide) fl_7_100 (rfl) d7_begin_356 ?_
                      refine sr_put hx hb hw hown hK hB 7 (hX 20 (by decide)) cf_20 us7 tk7 nm7 (by decide) fl_7_114 rfl rfl rfl rfl d7_begin_359 (fun H locs hB => ?_)
                      refine lv_iload hx hb d7_begin_362 (lv_at hl 1 rfl) ?_
                      exact se_i C0 hB (by rw [if_neg c_1, if_pos c_3, if_neg c_451, if_pos c_456, if_pos c_457, if_neg c_459, if_pos c_460, if_neg c_467, if_pos c_470, if_neg c_471] at hO; exact hO) d7_begin_364
                  · refine lv_bipush (v := (-7)) hx hb d7_begin_245 (by decide) ?_
                    refine lv_goto (tgt := 283) hx hb d7_begin_247 (by decide) ?_
                    refine lv_istore (lv' := [(6, .int (-7)), (7, .int (V7_chosen S A G (A 42 0 (x2.toNatClampNeg)))), (5, .int 0), (4, .int (A 42 0 (x2.toNatClampNeg))), (3, .int 1), (0, .ref (ad 20 0)), (1, .int x1), (2, .int x2)]) hx hb d7_begin_283 hl (by decide) rfl (fun ls hl => ?_)
                    refine lv_iload hx hb d7_begin_285 (lv_at hl 0 rfl) ?_
                    refine lv_if_ge (tgt := 293) hx hb d7_begin_287 (by decide) (fun c => absurd c (by decide)) (fun _ => ?_)
                    refine lv_iload hx hb d7_begin_290 (lv_at hl 0 rfl) ?_
                    exact se_i C0 hB (by rw [if_neg c_1, if_pos c_3, if_neg c_451, if_pos c_456, if_pos c_457, if_neg c_459, if_pos c_460, if_neg c_467, if_neg c_470] at hO; exact hO) d7_begin_292
                · refine lv_bipush (v := (-6)) hx hb d7_begin_215 (by decide) ?_
                  refine lv_istore (lv' := [(6, .int (-6)), (5, .int 0), (4, .int (A 42 0 (x2.toNatClampNeg))), (3, .int 1), (0, .ref (ad 20 0)), (1, .int x1), (2, .int x2)]) hx hb d7_begin_217 hl (by decide) rfl (fun ls hl => ?_)
                  refine lv_iload_n hx hb d7_begin_219 rfl (lv_at hl 5 rfl) ?_
                  refine lv_if_ne (tgt := 232) hx hb d7_begin_220 (by decide) (fun c => absurd c_3 c) (fun _ => ?_)
                  refine lv_aload_n hx hb d7_begin_223 rfl (lv_at hl 4 rfl) ?_
                  refine lv_iload hx hb d7_begin_224 (lv_at hl 2 rfl) ?_
                  refine sr_vp C0 hB (m7_chosen hX (A 42 0 (x2.toNatClampNeg)) (by (have a1 := sub1_i (x := S 20 0 20) (by omega)); (have kc_451 := hasOrder_t c_451); (have kc_456 := lt_i c_456); (have l0 : (0 : Int32).toInt = 0 := rfl); (have l42 : (42 : Int32).toInt = 42 := rfl);  first | assumption | omega)) (hX 20 (by decide)) cf_20 ml_7_150 im_7_chosen se_7_chosen in_7 cd_7_chosen hd7_chosen ⟨⟨rfl, rfl⟩, by decide, by decide⟩ ⟨Nat.zero_le _, Nat.zero_le _⟩ hl.1 rfl (Nat.le_of_ble_eq_true rfl) d7_begin_226 ?_
                  refine lv_goto (tgt := 233) hx hb d7_begin_229 (by decide) ?_
                  refine lv_istore (lv' := [(7, .int (V7_chosen S A G (A 42 0 (x2.toNatClampNeg)))), (6, .int (-6)), (5, .int 0), (4, .int (A 42 0 (x2.toNatClampNeg))), (3, .int 1), (0, .ref (ad 20 0)), (1, .int x1), (2, .int x2)]) hx hb d7_begin_233 hl (by decide) rfl (fun ls hl => ?_)
                  refine lv_iload hx hb d7_begin_235 (lv_at hl 1 rfl) ?_
                  refine lv_if_ne (tgt := 285) hx hb d7_begin_237 (by decide) (fun _ => ?_) (fun c => absurd c (by decide))
                  refine lv_iload hx hb d7_begin_285 (lv_at hl 1 rfl) ?_
                  refine lv_if_ge (tgt := 293) hx hb d7_begin_287 (by decide) (fun c => absurd c (by decide)) (fun _ => ?_)
                  refine lv_iload hx hb d7_begin_290 (lv_at hl 1 rfl) ?_
                  exact se_i C0 hB (by rw [if_neg c_1, if_pos c_3, if_neg c_451, if_pos c_456, if_pos c_457, if_neg c_459, if_pos c_460, if_pos c_467] at hO; exact hO) d7_begin_292
              · refine lv_bipush (v := (-4)) hx hb d7_begin_160 (by decide) ?_
                refine lv_goto (tgt := 166) hx hb d7_begin_162 (by decide) ?_
                refine lv_istore (lv' := [(6, .int (-4)), (5, .int 0), (4, .int (A 42 0 (x2.toNatClampNeg))), (3, .int 1), (0, .ref (ad 20 0)), (1, .int x1), (2, .int x2)]) hx hb d7_begin_166 hl (by decide) rfl (fun ls hl => ?_)
                refine lv_iload hx hb d7_begin_168 (lv_at hl 0 rfl) ?_
                refine lv_if_ne (tgt := 198) hx hb d7_begin_170 (by decide) (fun _ => ?_) (fun c => absurd c (by decide))
                refine lv_iload hx hb d7_begin_198 (lv_at hl 0 rfl) ?_
                refine lv_if_ne (tgt := 219) hx hb d7_begin_200 (by decide) (fun _ => ?_) (fun c => absurd c (by decide))
                refine lv_iload_n hx hb d7_begin_219 rfl (lv_at hl 5 rfl) ?_
                refine lv_if_ne (tgt := 232) hx hb d7_begin_220 (by decide) (fun c => absurd c_3 c) (fun _ => ?_)
                refine lv_aload_n hx hb d7_begin_223 rfl (lv_at hl 4 rfl) ?_
                refine lv_iload hx hb d7_begin_224 (lv_at hl 2 rfl) ?_
                refine sr_vp C0 hB (m7_chosen hX (A 42 0 (x2.toNatClampNeg)) (by (have a1 := sub1_i (x := S 20 0 20) (by omega)); (have kc_451 := hasOrder_t c_451); (have kc_456 := lt_i c_456); (have l0 : (0 : Int32).toInt = 0 := rfl); (have l42 : (42 : Int32).toInt = 42 := rfl);  first | assumption | omega)) (hX 20 (by decide)) cf_20 ml_7_150 im_7_chosen se_7_chosen in_7 cd_7_chosen hd7_chosen ⟨⟨rfl, rfl⟩, by decide, by decide⟩ ⟨Nat.zero_le _, Nat.zero_le _⟩ hl.1 rfl (Nat.le_of_ble_eq_true rfl) d7_begin_226 ?_
                refine lv_goto (tgt := 233) hx hb d7_begin_229 (by decide) ?_
                refine lv_istore (lv' := [(7, .int (V7_chosen S A G (A 42 0 (x2.toNatClampNeg)))), (6, .int (-4)), (5, .int 0), (4, .int (A 42 0 (x2.toNatClampNeg))), (3, .int 1), (0, .ref (ad 20 0)), (1, .int x1), (2, .int x2)]) hx hb d7_begin_233 hl (by decide) rfl (fun ls hl => ?_)
                refine lv_iload hx hb d7_begin_235 (lv_at hl 1 rfl) ?_
                refine lv_if_ne (tgt := 285) hx hb d7_begin_237 (by decide) (fun _ => ?_) (fun c => absurd c (by decide))
                refine lv_iload hx hb d7_begin_285 (lv_at hl 1 rfl) ?_
                refine lv_if_ge (tgt := 293) hx hb d7_begin_287 (by decide) (fun c => absurd c (by decide)) (fun _ => ?_)
                refine lv_iload hx hb d7_begin_290 (lv_at hl 1 rfl) ?_
                exact se_i C0 hB (by rw [if_neg c_1, if_pos c_3, if_neg c_451, if_pos c_456, if_pos c_457, if_neg c_459, if_neg c_460] at hO; exact hO) d7_begin_292
            · refine lv_bipush (v := (-3)) hx hb d7_begin_148 (by decide) ?_
              refine lv_goto (tgt := 166) hx hb d7_begin_150 (by decide) ?_
              refine lv_istore (lv' := [(6, .int (-3)), (5, .int 0), (4, .int (A 42 0 (x2.toNatClampNeg))), (3, .int 1), (0, .ref (ad 20 0)), (1, .int x1), (2, .int x2)]) hx hb d7_begin_166 hl (by decide) rfl (fun ls hl => ?_)
              refine lv_iload hx hb d7_begin_168 (lv_at hl 0 rfl) ?_
              refine lv_if_ne (tgt := 198) hx hb d7_begin_170 (by decide) (fun _ => ?_) (fun c => absurd c (by decide))
              refine lv_iload hx hb d7_begin_198 (lv_at hl 0 rfl) ?_
              refine lv_if_ne (tgt := 219) hx hb d7_begin_200 (by decide) (fun _ => ?_) (fun c => absurd c (by decide))
              refine lv_iload_n hx hb d7_begin_219 rfl (lv_at hl 5 rfl) ?_
              refine lv_if_ne (tgt := 232) hx hb d7_begin_220 (by decide) (fun c => absurd c_3 c) (fun _ => ?_)
              refine lv_aload_n hx hb d7_begin_223 rfl (lv_at hl 4 rfl) ?_
              refine lv_iload hx hb d7_begin_224 (lv_at hl 2 rfl) ?_
              refine sr_vp C0 hB (m7_chosen hX (A 42 0 (x2.toNatClampNeg)) (by (have a1 := sub1_i (x := S 20 0 20) (by omega)); (have kc_451 := hasOrder_t c_451); (have kc_456 := lt_i c_456); (have l0 : (0 : Int32).toInt = 0 := rfl); (have l42 : (42 : Int32).toInt = 42 := rfl);  first | assumption | omega)) (hX 20 (by decide)) cf_20 ml_7_150 im_7_chosen se_7_chosen in_7 cd_7_chosen hd7_chosen ⟨⟨rfl, rfl⟩, by decide, by decide⟩ ⟨Nat.zero_le _, Nat.zero_le _⟩ hl.1 rfl (Nat.le_of_ble_eq_true rfl) d7_begin_226 ?_
              refine lv_goto (tgt := 233) hx hb d7_begin_229 (by decide) ?_
              refine lv_istore (lv' := [(7, .int (V7_chosen S A G (A 42 0 (x2.toNatClampNeg)))), (6, .int (-3)), (5, .int 0), (4, .int (A 42 0 (x2.toNatClampNeg))), (3, .int 1), (0, .ref (ad 20 0)), (1, .int x1), (2, .int x2)]) hx hb d7_begin_233 hl (by decide) rfl (fun ls hl => ?_)
              refine lv_iload hx hb d7_begin_235 (lv_at hl 1 rfl) ?_
              refine lv_if_ne (tgt := 285) hx hb d7_begin_237 (by decide) (fun _ => ?_) (fun c => absurd c (by decide))
              refine lv_iload hx hb d7_begin_285 (lv_at hl 1 rfl) ?_
              refine lv_if_ge (tgt := 293) hx hb d7_begin_287 (by decide) (fun c => absurd c (by decide)) (fun _ => ?_)
              refine lv_iload hx hb d7_begin_290 (lv_at hl 1 rfl) ?_
              exact se_i C0 hB (by rw [if_neg c_1, if_pos c_3, if_neg c_451, if_pos c_456, if_pos c_457, if_pos c_459] at hO; exact hO) d7_begin_292
          · refine lv_bipush (v := (-2)) hx hb d7_begin_112 (by decide) ?_
            refine lv_goto (tgt := 166) hx hb d7_begin_114 (by decide) ?_
            refine lv_istore (lv' := [(6, .int (-2)), (5, .int 0), (4, .int (A 42 0 (x2.toNatClampNeg))), (3, .int 1), (0, .ref (ad 20 0)), (1, .int x1), (2, .int x2)]) hx hb d7_begin_166 hl (by decide) rfl (fun ls hl => ?_)
            refine lv_iload hx hb d7_begin_168 (lv_at hl 0 rfl) ?_
            refine lv_if_ne (tgt := 198) hx hb d7_begin_170 (by decide) (fun _ => ?_) (fun c => absurd c (by decide))
            refine lv_iload hx hb d7_begin_198 (lv_at hl 0 rfl) ?_
            refine lv_if_ne (tgt := 219) hx hb d7_begin_200 (by decide) (fun _ => ?_) (fun c => absurd c (by decide))
            refine lv_iload_n hx hb d7_begin_219 rfl (lv_at hl 5 rfl) ?_
            refine lv_if_ne (tgt := 232) hx hb d7_begin_220 (by decide) (fun c => absurd c_3 c) (fun _ => ?_)
            refine lv_aload_n hx hb d7_begin_223 rfl (lv_at hl 4 rfl) ?_
            refine lv_iload hx hb d7_begin_224 (lv_at hl 2 rfl) ?_
            refine sr_vp C0 hB (m7_chosen hX (A 42 0 (x2.toNatClampNeg)) (by (have a1 := sub1_i (x := S 20 0 20) (by omega)); (have kc_451 := hasOrder_t c_451); (have kc_456 := lt_i c_456); (have l0 : (0 : Int32).toInt = 0 := rfl); (have l42 : (42 : Int32).toInt = 42 := rfl);  first | assumption | omega)) (hX 20 (by decide)) cf_20 ml_7_150 im_7_chosen se_7_chosen in_7 cd_7_chosen hd7_chosen ⟨⟨rfl, rfl⟩, by decide, by decide⟩ ⟨Nat.zero_le _, Nat.zero_le _⟩ hl.1 rfl (Nat.le_of_ble_eq_true rfl) d7_begin_226 ?_
            refine lv_goto (tgt := 233) hx hb d7_begin_229 (by decide) ?_
            refine lv_istore (lv' := [(7, .int (V7_chosen S A G (A 42 0 (x2.toNatClampNeg)))), (6, .int (-2)), (5, .int 0), (4, .int (A 42 0 (x2.toNatClampNeg))), (3, .int 1), (0, .ref (ad 20 0)), (1, .int x1), (2, .int x2)]) hx hb d7_begin_233 hl (by decide) rfl (fun ls hl => ?_)
            refine lv_iload hx hb d7_begin_235 (lv_at hl 1 rfl) ?_
            refine lv_if_ne (tgt := 285) hx hb d7_begin_237 (by decide) (fun _ => ?_) (fun c => absurd c (by decide))
            refine lv_iload hx hb d7_begin_285 (lv_at hl 1 rfl) ?_
            refine lv_if_ge (tgt := 293) hx hb d7_begin_287 (by decide) (fun c => absurd c (by decide)) (fun _ => ?_)
            refine lv_iload hx hb d7_begin_290 (lv_at hl 1 rfl) ?_
            exact se_i C0 hB (by rw [if_neg c_1, if_pos c_3, if_neg c_451, if_pos c_456, if_neg c_457] at hO; exact hO) d7_begin_292
        · refine lv_aload_n hx hb d7_begin_83 rfl (lv_at hl 2 rfl) ?_
          refine sr_get (v := .ref (ad 32 0)) hx hb hw hown hK hB 11 (hX 20 (by decide)) cf_20 us7 (by decide) fl_7_36 (rfl) d7_begin_84 ?_
          refine lv_iload hx hb d7_begin_87 (lv_at hl 0 rfl) ?_
          refine sr_zald (v := A 32 0 ((A 42 0 (x2.toNatClampNeg)).toNatClampNeg)) hx hb hK hB (hX 32 (by decide)) rfl rfl (by (refine vp_in_iff.mpr ?_); (show 0 ≤ (A 42 0 (x2.toNatClampNeg)).toInt ∧ (A 42 0 (x2.toNatClampNeg)).toInt < ((32 : Nat) : Int)); (have a1 := sub1_i (x := S 20 0 20) (by omega)); (have kc_451 := hasOrder_t c_451); (have kc_456 := nlt_i c_456); (have l0 : (0 : Int32).toInt = 0 := rfl); (have l42 : (42 : Int32).toInt = 42 := rfl); (have qi := at_i hoi (x := x2) (by omega));  omega) d7_begin_89 (rfl) ?_
          refine lv_if_eq (tgt := 102) hx hb d7_begin_90 (by decide) (fun c_497 => ?_) (fun c_497 => ?_)
          · refine lv_iconst (v := 0) hx hb d7_begin_102 (by decide) ?_
            refine lv_istore (lv' := [(5, .int 0), (4, .int (A 42 0 (x2.toNatClampNeg))), (3, .int 1), (0, .ref (ad 20 0)), (1, .int x1), (2, .int x2)]) hx hb d7_begin_103 hl (by decide) rfl (fun ls hl => ?_)
            refine lv_aload_n hx hb d7_begin_105 rfl (lv_at hl 3 rfl) ?_
            refine sr_get (v := .int (S 20 0 6)) hx hb hw hown hK hB 6 (hX 20 (by decide)) cf_20 us7 (by decide) fl_7_26 (rfl) d7_begin_106 ?_
            refine lv_if_ge (tgt := 117) hx hb d7_begin_109 (by decide) (fun c_498 => ?_) (fun c_498 => ?_)
            · refine lv_iload_n hx hb d7_begin_117 rfl (lv_at hl 4 rfl) ?_
              refine lv_iconst (v := 1) hx hb d7_begin_118 (by decide) ?_
              refine lv_icmp_ne (tgt := 135) hx hb d7_begin_119 (by decide) (fun _ => ?_) (fun c => absurd c (by rw [c_3]; decide))
              refine lv_aload_n hx hb d7_begin_135 rfl (lv_at hl 3 rfl) ?_
              refine sr_get (v := .ref (ad 23 0)) hx hb hw hown hK hB 2 (hX 20 (by decide)) cf_20 us7 (by decide) fl_7_13 (rfl) d7_begin_136 ?_
              refine lv_aload_n hx hb d7_begin_139 rfl (lv_at hl 3 rfl) ?_
              refine sr_get (v := .int (S 20 0 6)) hx hb hw hown hK hB 6 (hX 20 (by decide)) cf_20 us7 (by decide) fl_7_26 (rfl) d7_begin_140 ?_
              refine sr_iald (v := A 23 0 ((S 20 0 6).toNatClampNeg)) hx hb hK hB (hX 23 (by decide)) rfl rfl (by (refine vp_in_iff.mpr ?_); (show 0 ≤ (S 20 0 6).toInt ∧ (S 20 0 6).toInt < ((16 : Nat) : Int)); (have a1 := sub1_i (x := S 20 0 20) (by omega)); (have kc_451 := hasOrder_t c_451); (have kc_498 := le_i c_498); (have l0 : (0 : Int32).toInt = 0 := rfl); (have l20 : (20 : Int32).toInt = 20 := rfl); (have l6 : (6 : Int32).toInt = 6 := rfl);  omega) d7_begin_143 (rfl) ?_
              refine lv_iconst (v := 2) hx hb d7_begin_144 (by decide) ?_
              refine lv_icmp_ne (tgt := 153) hx hb d7_begin_145 (by decide) (fun c_500 => ?_) (fun c_500 => ?_)
              · refine lv_aload_n hx hb d7_begin_153 rfl (lv_at hl 3 rfl) ?_
                refine sr_get (v := .int (S 20 0 27)) hx hb hw hown hK hB 27 (hX 20 (by decide)) cf_20 us7 (by decide) fl_7_81 (rfl) d7_begin_154 ?_
                refine lv_if_lt (tgt := 165) hx hb d7_begin_157 (by decide) (fun c_501 => ?_) (fun c_501 => ?_)
                · refine lv_iconst (v := 0) hx hb d7_begin_165 (by decide) ?_
                  refine lv_istore (lv' := [(6, .int 0), (5, .int 0), (4, .int (A 42 0 (x2.toNatClampNeg))), (3, .int 1), (0, .ref (ad 20 0)), (1, .int x1), (2, .int x2)]) hx hb d7_begin_166 hl (by decide) rfl (fun ls hl => ?_)
                  refine lv_iload hx hb d7_begin_168 (lv_at hl 0 rfl) ?_
                  refine lv_if_ne (tgt := 198) hx hb d7_begin_170 (by decide) (fun c => absurd (by decide) c) (fun _ => ?_)
                  refine lv_iload_n hx hb d7_begin_173 rfl (lv_at hl 5 rfl) ?_
                  refine lv_iconst (v := 3) hx hb d7_begin_174 (by decide) ?_
                  refine lv_icmp_eq (tgt := 187) hx hb d7_begin_175 (by decide) (fun c => absurd c (by rw [c_3]; decide)) (fun _ => ?_)
                  refine lv_iload_n hx hb d7_begin_178 rfl (lv_at hl 5 rfl) ?_
                  refine lv_if_ne (tgt := 198) hx hb d7_begin_179 (by decide) (fun c => absurd c_3 c) (fun _ => ?_)
                  refine lv_iload hx hb d7_begin_182 (lv_at hl 1 rfl) ?_
                  refine lv_if_eq (tgt := 198) hx hb d7_begin_184 (by decide) (fun _ => ?_) (fun c => absurd (by decide) c)
                  refine lv_iload hx hb d7_begin_198 (lv_at hl 0 rfl) ?_
                  refine lv_if_ne (tgt := 219) hx hb d7_begin_200 (by decide) (fun c => absurd (by decide) c) (fun _ => ?_)
                  refine lv_iload_n hx hb d7_begin_203 rfl (lv_at hl 5 rfl) ?_
                  refine lv_if_ne (tgt := 219) hx hb d7_begin_204 (by decide) (fun c => absurd c_3 c) (fun _ => ?_)
                  refine lv_aload_n hx hb d7_begin_207 rfl (lv_at hl 4 rfl) ?_
                  refine lv_iload_n hx hb d7_begin_208 rfl (lv_at hl 6 rfl) ?_
                  refine sr_vp C0 hB (m7_mayTake hX x2 (by (have a1 := sub1_i (x := S 20 0 20) (by omega)); (have kc_1 := in_t c_1); (have kc_3 := congrArg Int32.toInt c_3); (have kc_451 := hasOrder_t c_451); (have l0 : (0 : Int32).toInt = 0 := rfl); (have l3 : (3 : Int32).toInt = 3 := rfl);  first | assumption | omega)) (hX 20 (by decide)) cf_20 ml_7_147 im_7_mayTake se_7_mayTake in_7 cd_7_mayTake hd7_mayTake ⟨⟨rfl, rfl⟩, by decide, by decide⟩ ⟨Nat.zero_le _, Nat.zero_le _⟩ hl.1 rfl (Nat.le_of_ble_eq_true rfl) d7_begin_209 ?_
                  refine lv_if_ne (tgt := 219) hx hb d7_begin_212 (by decide) (fun c_508 => ?_) (fun c_508 => ?_)
                  · refine lv_iload_n hx hb d7_begin_219 rfl (lv_at hl 5 rfl) ?_
                    refine lv_if_ne (tgt := 232) hx hb d7_begin_220 (by decide) (fun c => absurd c_3 c) (fun _ => ?_)
                    refine lv_aload_n hx hb d7_begin_223 rfl (lv_at hl 4 rfl) ?_
                    refine lv_iload hx hb d7_begin_224 (lv_at hl 2 rfl) ?_
                    refine sr_vp C0 hB (m7_chosen hX (A 42 0 (x2.toNatClampNeg)) (by (have a1 := sub1_i (x := S 20 0 20) (by omega)); (have kc_451 := hasOrder_t c_451); (have kc_456 := nlt_i c_456); (have l0 : (0 : Int32).toInt = 0 := rfl); (have l42 : (42 : Int32).toInt = 42 := rfl);  first | assumption | omega)) (hX 20 (by decide)) cf_20 ml_7_150 im_7_chosen se_7_chosen in_7 cd_7_chosen hd7_chosen ⟨⟨rfl, rfl⟩, by decide, by decide⟩ ⟨Nat.zero_le _, Nat.zero_le _⟩ hl.1 rfl (Nat.le_of_ble_eq_true rfl) d7_begin_226 ?_
                    refine lv_goto (tgt := 233) hx hb d7_begin_229 (by decide) ?_
                    refine lv_istore (lv' := [(7, .int (V7_chosen S A G (A 42 0 (x2.toNatClampNeg)))), (6, .int 0), (5, .int 0), (4, .int (A 42 0 (x2.toNatClampNeg))), (3, .int 1), (0, .ref (ad 20 0)), (1, .int x1), (2, .int x2)]) hx hb d7_begin_233 hl (by decide) rfl (fun ls hl => ?_)
                    refine lv_iload hx hb d7_begin_235 (lv_at hl 1 rfl) ?_
                    refine lv_if_ne (tgt := 285) hx hb d7_begin_237 (by decide) (fun c => absurd (by decide) c) (fun _ => ?_)
                    refine lv_iload hx hb d7_begin_240 (lv_at hl 0 rfl) ?_
                    refine lv_if_ge (tgt := 250) hx hb d7_begin_242 (by decide) (fun c_511 => ?_) (fun c_511 => ?_)
                    · refine lv_aload_n hx hb d7_begin_250 rfl (lv_at hl 5 rfl) ?_
                      refine sr_get (v := .int (S 20 0 34)) hx hb hw hown hK hB 34 (hX 20 (by decide)) cf_20 us7 (by decide) fl_7_130 (rfl) d7_begin_251 ?_
                      refine lv_sipush (v := 290) hx hb d7_begin_254 (by decide) ?_
                      refine lv_icmp_ge (tgt := 277) hx hb d7_begin_257 (by decide) (fun c_512 => ?_) (fun c_512 => ?_)
                      · refine lv_bipush (v := (-8)) hx hb d7_begin_277 (by decide) ?_
                        refine lv_goto (tgt := 283) hx hb d7_begin_279 (by decide) ?_
                        refine lv_istore (lv' := [(6, .int (-8)), (7, .int (V7_chosen S A G (A 42 0 (x2.toNatClampNeg)))), (5, .int 0), (4, .int (A 42 0 (x2.toNatClampNeg))), (3, .int 1), (0, .ref (ad 20 0)), (1, .int x1), (2, .int x2)]) hx hb d7_begin_283 hl (by decide) rfl (fun ls hl => ?_)
                        refine lv_iload hx hb d7_begin_285 (lv_at hl 0 rfl) ?_
                        refine lv_if_ge (tgt := 293) hx hb d7_begin_287 (by decide) (fun c => absurd c (by decide)) (fun _ => ?_)
                        refine lv_iload hx hb d7_begin_290 (lv_at hl 0 rfl) ?_
                        exact se_i C0 hB (by rw [if_neg c_1, if_pos c_3, if_neg c_451, if_neg c_456, if_pos c_497, if_pos c_498, if_neg c_500, if_pos c_501, if_neg c_508, if_pos c_511, if_pos c_512] at hO; exact hO) d7_begin_292
                      · refine lv_iload_n hx hb d7_begin_260 rfl (lv_at hl 6 rfl) ?_
                        refine lv_iconst (v := 1) hx hb d7_begin_261 (by decide) ?_
                        refine lv_icmp_ne (tgt := 282) hx hb d7_begin_262 (by decide) (fun _ => ?_) (fun c => absurd c (by rw [c_3]; decide))
                        refine lv_iconst (v := 0) hx hb d7_begin_282 (by decide) ?_
                        refine lv_istore (lv' := [(6, .int 0), (7, .int (V7_chosen S A G (A 42 0 (x2.toNatClampNeg)))), (5, .int 0), (4, .int (A 42 0 (x2.toNatClampNeg))), (3, .int 1), (0, .ref (ad 20 0)), (1, .int x1), (2, .int x2)]) hx hb d7_begin_283 hl (by decide) rfl (fun ls hl => ?_)
                        refine lv_iload hx hb d7_begin_285 (lv_at hl 0 rfl) ?_
                        refine lv_if_ge (tgt := 293) hx hb d7_begin_287 (by decide) (fun _ => ?_) (fun c => absurd (by decide) c)
                        refine lv_aload_n hx hb d7_begin_293 rfl (lv_at hl 5 rfl) ?_
                        refine lv_iload_n hx hb d7_begin_294 rfl (lv_at hl 6 rfl) ?_
                        refine sr_put hx hb hw hown hK hB 27 (hX 20 (by decide)) cf_20 us7 tk7 nm7 (by decide) fl_7_81 rfl rfl rfl rfl d7_begin_295 (fun H locs hB => ?_)
                        refine lv_aload_n hx hb d7_begin_298 rfl (lv_at hl 5 rfl) ?_
                        refine lv_iload hx hb d7_begin_299 (lv_at hl 1 rfl) ?_
                        refine sr_put hx hb hw hown hK hB 28 (hX 20 (by decide)) cf_20 us7 tk7 nm7 (by decide) fl_7_153 rfl rfl rfl rfl d7_begin_301 (fun H locs hB => ?_)
                        refine lv_aload_n hx hb d7_begin_304 rfl (lv_at hl 5 rfl) ?_
                        refine lv_iload_n hx hb d7_begin_305 rfl (lv_at hl 6 rfl) ?_
                        refine lv_if_ne (tgt := 313) hx hb d7_begin_306 (by decide) (fun c => absurd c_3 c) (fun _ => ?_)
                        refine lv_iload_n hx hb d7_begin_309 rfl (lv_at hl 7 rfl) ?_
                        refine lv_goto (tgt := 314) hx hb d7_begin_310 (by decide) ?_
                        refine sr_put hx hb hw hown hK hB 29 (hX 20 (by decide)) cf_20 us7 tk7 nm7 (by decide) fl_7_124 rfl rfl rfl rfl d7_begin_314 (fun H locs hB => ?_)
                        refine lv_aload_n hx hb d7_begin_317 rfl (lv_at hl 5 rfl) ?_
                        refine lv_aload_n hx hb d7_begin_318 rfl (lv_at hl 5 rfl) ?_
                        refine sr_get (v := .int (S 20 0 0)) hx hb hw hown hK hB 0 (hX 20 (by decide)) cf_20 us7 (by decide) fl_7_100 (rfl) d7_begin_319 ?_
                        refine sr_put hx hb hw hown hK hB 30 (hX 20 (by decide)) cf_20 us7 tk7 nm7 (by decide) fl_7_156 rfl rfl rfl rfl d7_begin_322 (fun H locs hB => ?_)
                        refine lv_aload_n hx hb d7_begin_325 rfl (lv_at hl 5 rfl) ?_
                        refine lv_iload_n hx hb d7_begin_326 rfl (lv_at hl 6 rfl) ?_
                        refine lv_iconst (v := 2) hx hb d7_begin_327 (by decide) ?_
                        refine lv_icmp_eq (tgt := 336) hx hb d7_begin_328 (by decide) (fun c => absurd c (by rw [c_3]; decide)) (fun _ => ?_)
                        refine lv_iload hx hb d7_begin_331 (lv_at hl 2 rfl) ?_
                        refine lv_if_eq (tgt := 340) hx hb d7_begin_333 (by decide) (fun _ => ?_) (fun c => absurd (by decide) c)
                        refine lv_iconst (v := 0) hx hb d7_begin_340 (by decide) ?_
                        refine sr_put hx hb hw hown hK hB 31 (hX 20 (by decide)) cf_20 us7 tk7 nm7 (by decide) fl_7_159 rfl rfl rfl rfl d7_begin_341 (fun H locs hB => ?_)
                        refine lv_aload_n hx hb d7_begin_344 rfl (lv_at hl 5 rfl) ?_
                        refine lv_iconst (v := 0) hx hb d7_begin_345 (by decide) ?_
                        refine sr_put hx hb hw hown hK hB 32 (hX 20 (by decide)) cf_20 us7 tk7 nm7 (by decide) fl_7_163 rfl rfl rfl rfl d7_begin_346 (fun H locs hB => ?_)
                        refine lv_aload_n hx hb d7_begin_349 rfl (lv_at hl 5 rfl) ?_
                        refine lv_iconst (v := 0) hx hb d7_begin_350 (by decide) ?_
                        refine sr_put hx hb hw hown hK hB 33 (hX 20 (by decide)) cf_20 us7 tk7 nm7 (by decide) fl_7_166 rfl rfl rfl rfl d7_begin_351 (fun H locs hB => ?_)
                        refine lv_aload_n hx hb d7_begin_354 rfl (lv_at hl 5 rfl) ?_
                        refine lv_aload_n hx hb d7_begin_355 rfl (lv_at hl 5 rfl) ?_
                        refine sr_get (v := .int (S 20 0 0)) hx hb hw hown hK hB 0 (hX 20 (by decide)) cf_20 us7 (by decide) fl_7_100 (rfl) d7_begin_356 ?_
                        refine sr_put hx hb hw hown hK hB 7 (hX 20 (by decide)) cf_20 us7 tk7 nm7 (by decide) fl_7_114 rfl rfl rfl rfl d7_begin_359 (fun H locs hB => ?_)
                        refine lv_iload hx hb d7_begin_362 (lv_at hl 1 rfl) ?_
                        exact se_i C0 hB (by rw [if_neg c_1, if_pos c_3, if_neg c_451, if_neg c_456, if_pos c_497, if_pos c_498, if_neg c_500, if_pos c_501, if_neg c_508, if_pos c_511, if_neg c_512] at hO; exact hO) d7_begin_364
                    · refine lv_bipush (v := (-7)) hx hb d7_begin_245 (by decide) ?_
                      refine lv_goto (tgt := 283) hx hb d7_begin_247 (by decide) ?_
                      refine lv_istore (lv' := [(6, .int (-7)), (7, .int (V7_chosen S A G (A 42 0 (x2.toNatClampNeg)))), (5, .int 0), (4, .int (A 42 0 (x2.toNatClampNeg))), (3, .int 1), (0, .ref (ad 20 0)), (1, .int x1), (2, .int x2)]) hx hb d7_begin_283 hl (by decide) rfl (fun ls hl => ?_)
                      refine lv_iload hx hb d7_begin_285 (lv_at hl 0 rfl) ?_
                      refine lv_if_ge (tgt := 293) hx hb d7_begin_287 (by decide) (fun c => absurd c (by decide)) (fun _ => ?_)
                      refine lv_iload hx hb d7_begin_290 (lv_at hl 0 rfl) ?_
                      exact se_i C0 hB (by rw [if_neg c_1, if_pos c_3, if_neg c_451, if_neg c_456, if_pos c_497, if_pos c_498, if_neg c_500, if_pos c_501, if_neg c_508, if_neg c_511] at hO; exact hO) d7_begin_292
                  · refine lv_bipush (v := (-6)) hx hb d7_begin_215 (by decide) ?_
                    refine lv_istore (lv' := [(6, .int (-6)), (5, .int 0), (4, .int (A 42 0 (x2.toNatClampNeg))), (3, .int 1), (0, .ref (ad 20 0)), (1, .int x1), (2, .int x2)]) hx hb d7_begin_217 hl (by decide) rfl (fun ls hl => ?_)
                    refine lv_iload_n hx hb d7_begin_219 rfl (lv_at hl 5 rfl) ?_
                    refine lv_if_ne (tgt := 232) hx hb d7_begin_220 (by decide) (fun c => absurd c_3 c) (fun _ => ?_)
                    refine lv_aload_n hx hb d7_begin_223 rfl (lv_at hl 4 rfl) ?_
                    refine lv_iload hx hb d7_begin_224 (lv_at hl 2 rfl) ?_
                    refine sr_vp C0 hB (m7_chosen hX (A 42 0 (x2.toNatClampNeg)) (by (have a1 := sub1_i (x := S 20 0 20) (by omega)); (have kc_451 := hasOrder_t c_451); (have kc_456 := nlt_i c_456); (have l0 : (0 : Int32).toInt = 0 := rfl); (have l42 : (42 : Int32).toInt = 42 := rfl);  first | assumption | omega)) (hX 20 (by decide)) cf_20 ml_7_150 im_7_chosen se_7_chosen in_7 cd_7_chosen hd7_chosen ⟨⟨rfl, rfl⟩, by decide, by decide⟩ ⟨Nat.zero_le _, Nat.zero_le _⟩ hl.1 rfl (Nat.le_of_ble_eq_true rfl) d7_begin_226 ?_
                    refine lv_goto (tgt := 233) hx hb d7_begin_229 (by decide) ?_
                    refine lv_istore (lv' := [(7, .int (V7_chosen S A G (A 42 0 (x2.toNatClampNeg)))), (6, .int (-6)), (5, .int 0), (4, .int (A 42 0 (x2.toNatClampNeg))), (3, .int 1), (0, .ref (ad 20 0)), (1, .int x1), (2, .int x2)]) hx hb d7_begin_233 hl (by decide) rfl (fun ls hl => ?_)
                    refine lv_iload hx hb d7_begin_235 (lv_at hl 1 rfl) ?_
                    refine lv_if_ne (tgt := 285) hx hb d7_begin_237 (by decide) (fun _ => ?_) (fun c => absurd c (by decide))
                    refine lv_iload hx hb d7_begin_285 (lv_at hl 1 rfl) ?_
                    refine lv_if_ge (tgt := 293) hx hb d7_begin_287 (by decide) (fun c => absurd c (by decide)) (fun _ => ?_)
                    refine lv_iload hx hb d7_begin_290 (lv_at hl 1 rfl) ?_
                    exact se_i C0 hB (by rw [if_neg c_1, if_pos c_3, if_neg c_451, if_neg c_456, if_pos c_497, if_pos c_498, if_neg c_500, if_pos c_501, if_pos c_508] at hO; exact hO) d7_begin_292
                · refine lv_bipush (v := (-4)) hx hb d7_begin_160 (by decide) ?_
                  refine lv_goto (tgt := 166) hx hb d7_begin_162 (by decide) ?_
                  refine lv_istore (lv' := [(6, .int (-4)), (5, .int 0), (4, .int (A 42 0 (x2.toNatClampNeg))), (3, .int 1), (0, .ref (ad 20 0)), (1, .int x1), (2, .int x2)]) hx hb d7_begin_166 hl (by decide) rfl (fun ls hl => ?_)
                  refine lv_iload hx hb d7_begin_168 (lv_at hl 0 rfl) ?_
                  refine lv_if_ne (tgt := 198) hx hb d7_begin_170 (by decide) (fun _ => ?_) (fun c => absurd c (by decide))
                  refine lv_iload hx hb d7_begin_198 (lv_at hl 0 rfl) ?_
                  refine lv_if_ne (tgt := 219) hx hb d7_begin_200 (by decide) (fun _ => ?_) (fun c => absurd c (by decide))
                  refine lv_iload_n hx hb d7_begin_219 rfl (lv_at hl 5 rfl) ?_
                  refine lv_if_ne (tgt := 232) hx hb d7_begin_220 (by decide) (fun c => absurd c_3 c) (fun _ => ?_)
                  refine lv_aload_n hx hb d7_begin_223 rfl (lv_at hl 4 rfl) ?_
                  refine lv_iload hx hb d7_begin_224 (lv_at hl 2 rfl) ?_
                  refine sr_vp C0 hB (m7_chosen hX (A 42 0 (x2.toNatClampNeg)) (by (have a1 := sub1_i (x := S 20 0 20) (by omega)); (have kc_451 := hasOrder_t c_451); (have kc_456 := nlt_i c_456); (have l0 : (0 : Int32).toInt = 0 := rfl); (have l42 : (42 : Int32).toInt = 42 := rfl);  first | assumption | omega)) (hX 20 (by decide)) cf_20 ml_7_150 im_7_chosen se_7_chosen in_7 cd_7_chosen hd7_chosen ⟨⟨rfl, rfl⟩, by decide, by decide⟩ ⟨Nat.zero_le _, Nat.zero_le _⟩ hl.1 rfl (Nat.le_of_ble_eq_true rfl) d7_begin_226 ?_
                  refine lv_goto (tgt := 233) hx hb d7_begin_229 (by decide) ?_
                  refine lv_istore (lv' := [(7, .int (V7_chosen S A G (A 42 0 (x2.toNatClampNeg)))), (6, .int (-4)), (5, .int 0), (4, .int (A 42 0 (x2.toNatClampNeg))), (3, .int 1), (0, .ref (ad 20 0)), (1, .int x1), (2, .int x2)]) hx hb d7_begin_233 hl (by decide) rfl (fun ls hl => ?_)
                  refine lv_iload hx hb d7_begin_235 (lv_at hl 1 rfl) ?_
                  refine lv_if_ne (tgt := 285) hx hb d7_begin_237 (by decide) (fun _ => ?_) (fun c => absurd c (by decide))
                  refine lv_iload hx hb d7_begin_285 (lv_at hl 1 rfl) ?_
                  refine lv_if_ge (tgt := 293) hx hb d7_begin_287 (by decide) (fun c => absurd c (by decide)) (fun _ => ?_)
                  refine lv_iload hx hb d7_begin_290 (lv_at hl 1 rfl) ?_
                  exact se_i C0 hB (by rw [if_neg c_1, if_pos c_3, if_neg c_451, if_neg c_456, if_pos c_497, if_pos c_498, if_neg c_500, if_neg c_501] at hO; exact hO) d7_begin_292
              · refine lv_bipush (v := (-3)) hx hb d7_begin_148 (by decide) ?_
                refine lv_goto (tgt := 166) hx hb d7_begin_150 (by decide) ?_
                refine lv_istore (lv' := [(6, .int (-3)), (5, .int 0), (4, .int (A 42 0 (x2.toNatClampNeg))), (3, .int 1), (0, .ref (ad 20 0)), (1, .int x1), (2, .int x2)]) hx hb d7_begin_166 hl (by decide) rfl (fun ls hl => ?_)
                refine lv_iload hx hb d7_begin_168 (lv_at hl 0 rfl) ?_
                refine lv_if_ne (tgt := 198) hx hb d7_begin_170 (by decide) (fun _ => ?_) (fun c => absurd c (by decide))
                refine lv_iload hx hb d7_begin_198 (lv_at hl 0 rfl) ?_
                refine lv_if_ne (tgt := 219) hx hb d7_begin_200 (by decide) (fun _ => ?_) (fun c => absurd c (by decide))
                refine lv_iload_n hx hb d7_begin_219 rfl (lv_at hl 5 rfl) ?_
                refine lv_if_ne (tgt := 232) hx hb d7_begin_220 (by decide) (fun c => absurd c_3 c) (fun _ => ?_)
                refine lv_aload_n hx hb d7_begin_223 rfl (lv_at hl 4 rfl) ?_
                refine lv_iload hx hb d7_begin_224 (lv_at hl 2 rfl) ?_
                refine sr_vp C0 hB (m7_chosen hX (A 42 0 (x2.toNatClampNeg)) (by (have a1 := sub1_i (x := S 20 0 20) (by omega)); (have kc_451 := hasOrder_t c_451); (have kc_456 := nlt_i c_456); (have l0 : (0 : Int32).toInt = 0 := rfl); (have l42 : (42 : Int32).toInt = 42 := rfl);  first | assumption | omega)) (hX 20 (by decide)) cf_20 ml_7_150 im_7_chosen se_7_chosen in_7 cd_7_chosen hd7_chosen ⟨⟨rfl, rfl⟩, by decide, by decide⟩ ⟨Nat.zero_le _, Nat.zero_le _⟩ hl.1 rfl (Nat.le_of_ble_eq_true rfl) d7_begin_226 ?_
                refine lv_goto (tgt := 233) hx hb d7_begin_229 (by decide) ?_
                refine lv_istore (lv' := [(7, .int (V7_chosen S A G (A 42 0 (x2.toNatClampNeg)))), (6, .int (-3)), (5, .int 0), (4, .int (A 42 0 (x2.toNatClampNeg))), (3, .int 1), (0, .ref (ad 20 0)), (1, .int x1), (2, .int x2)]) hx hb d7_begin_233 hl (by decide) rfl (fun ls hl => ?_)
                refine lv_iload hx hb d7_begin_235 (lv_at hl 1 rfl) ?_
                refine lv_if_ne (tgt := 285) hx hb d7_begin_237 (by decide) (fun _ => ?_) (fun c => absurd c (by decide))
                refine lv_iload hx hb d7_begin_285 (lv_at hl 1 rfl) ?_
                refine lv_if_ge (tgt := 293) hx hb d7_begin_287 (by decide) (fun c => absurd c (by decide)) (fun _ => ?_)
                refine lv_iload hx hb d7_begin_290 (lv_at hl 1 rfl) ?_
                exact se_i C0 hB (by rw [if_neg c_1, if_pos c_3, if_neg c_451, if_neg c_456, if_pos c_497, if_pos c_498, if_pos c_500] at hO; exact hO) d7_begin_292
            · refine lv_bipush (v := (-2)) hx hb d7_begin_112 (by decide) ?_
              refine lv_goto (tgt := 166) hx hb d7_begin_114 (by decide) ?_
              refine lv_istore (lv' := [(6, .int (-2)), (5, .int 0), (4, .int (A 42 0 (x2.toNatClampNeg))), (3, .int 1), (0, .ref (ad 20 0)), (1, .int x1), (2, .int x2)]) hx hb d7_begin_166 hl (by decide) rfl (fun ls hl => ?_)
              refine lv_iload hx hb d7_begin_168 (lv_at hl 0 rfl) ?_
              refine lv_if_ne (tgt := 198) hx hb d7_begin_170 (by decide) (fun _ => ?_) (fun c => absurd c (by decide))
              refine lv_iload hx hb d7_begin_198 (lv_at hl 0 rfl) ?_
              refine lv_if_ne (tgt := 219) hx hb d7_begin_200 (by decide) (fun _ => ?_) (fun c => absurd c (by decide))
              refine lv_iload_n hx hb d7_begin_219 rfl (lv_at hl 5 rfl) ?_
              refine lv_if_ne (tgt := 232) hx hb d7_begin_220 (by decide) (fun c => absurd c_3 c) (fun _ => ?_)
              refine lv_aload_n hx hb d7_begin_223 rfl (lv_at hl 4 rfl) ?_
              refine lv_iload hx hb d7_begin_224 (lv_at hl 2 rfl) ?_
              refine sr_vp C0 hB (m7_chosen hX (A 42 0 (x2.toNatClampNeg)) (by (have a1 := sub1_i (x := S 20 0 20) (by omega)); (have kc_451 := hasOrder_t c_451); (have kc_456 := nlt_i c_456); (have l0 : (0 : Int32).toInt = 0 := rfl); (have l42 : (42 : Int32).toInt = 42 := rfl);  first | assumption | omega)) (hX 20 (by decide)) cf_20 ml_7_150 im_7_chosen se_7_chosen in_7 cd_7_chosen hd7_chosen ⟨⟨rfl, rfl⟩, by decide, by decide⟩ ⟨Nat.zero_le _, Nat.zero_le _⟩ hl.1 rfl (Nat.le_of_ble_eq_true rfl) d7_begin_226 ?_
              refine lv_goto (tgt := 233) hx hb d7_begin_229 (by decide) ?_
              refine lv_istore (lv' := [(7, .int (V7_chosen S A G (A 42 0 (x2.toNatClampNeg)))), (6, .int (-2)), (5, .int 0), (4, .int (A 42 0 (x2.toNatClampNeg))), (3, .int 1), (0, .ref (ad 20 0)), (1, .int x1), (2, .int x2)]) hx hb d7_begin_233 hl (by decide) rfl (fun ls hl => ?_)
              refine lv_iload hx hb d7_begin_235 (lv_at hl 1 rfl) ?_
              refine lv_if_ne (tgt := 285) hx hb d7_begin_237 (by decide) (fun _ => ?_) (fun c => absurd c (by decide))
              refine lv_iload hx hb d7_begin_285 (lv_at hl 1 rfl) ?_
              refine lv_if_ge (tgt := 293) hx hb d7_begin_287 (by decide) (fun c => absurd c (by decide)) (fun _ => ?_)
              refine lv_iload hx hb d7_begin_290 (lv_at hl 1 rfl) ?_
              exact se_i C0 hB (by rw [if_neg c_1, if_pos c_3, if_neg c_451, if_neg c_456, if_pos c_497, if_neg c_498] at hO; exact hO) d7_begin_292
          · refine lv_iload_n hx hb d7_begin_93 rfl (lv_at hl 3 rfl) ?_
            refine lv_iconst (v := 1) hx hb d7_begin_94 (by decide) ?_
            refine lv_icmp_eq (tgt := 102) hx hb d7_begin_95 (by decide) (fun c => absurd c (by rw [c_3]; decide)) (fun _ => ?_)
            refine lv_iconst (v := 1) hx hb d7_begin_98 (by decide) ?_
            refine lv_goto (tgt := 103) hx hb d7_begin_99 (by decide) ?_
            refine lv_istore (lv' := [(5, .int 1), (4, .int (A 42 0 (x2.toNatClampNeg))), (3, .int 1), (0, .ref (ad 20 0)), (1, .int x1), (2, .int x2)]) hx hb d7_begin_103 hl (by decide) rfl (fun ls hl => ?_)
            refine lv_aload_n hx hb d7_begin_105 rfl (lv_at hl 3 rfl) ?_
            refine sr_get (v := .int (S 20 0 6)) hx hb hw hown hK hB 6 (hX 20 (by decide)) cf_20 us7 (by decide) fl_7_26 (rfl) d7_begin_106 ?_
            refine lv_if_ge (tgt := 117) hx hb d7_begin_109 (by decide) (fun c_539 => ?_) (fun c_539 => ?_)
            · refine lv_iload_n hx hb d7_begin_117 rfl (lv_at hl 4 rfl) ?_
              refine lv_iconst (v := 1) hx hb d7_begin_118 (by decide) ?_
              refine lv_icmp_ne (tgt := 135) hx hb d7_begin_119 (by decide) (fun _ => ?_) (fun c => absurd c (by rw [c_3]; decide))
              refine lv_aload_n hx hb d7_begin_135 rfl (lv_at hl 3 rfl) ?_
              refine sr_get (v := .ref (ad 23 0)) hx hb hw hown hK hB 2 (hX 20 (by decide)) cf_20 us7 (by decide) fl_7_13 (rfl) d7_begin_136 ?_
              refine lv_aload_n hx hb d7_begin_139 rfl (lv_at hl 3 rfl) ?_
              refine sr_get (v := .int (S 20 0 6)) hx hb hw hown hK hB 6 (hX 20 (by decide)) cf_20 us7 (by decide) fl_7_26 (rfl) d7_begin_140 ?_
              refine sr_iald (v := A 23 0 ((S 20 0 6).toNatClampNeg)) hx hb hK hB (hX 23 (by decide)) rfl rfl (by (refine vp_in_iff.mpr ?_); (show 0 ≤ (S 20 0 6).toInt ∧ (S 20 0 6).toInt < ((16 : Nat) : Int)); (have a1 := sub1_i (x := S 20 0 20) (by omega)); (have kc_451 := hasOrder_t c_451); (have kc_539 := le_i c_539); (have l0 : (0 : Int32).toInt = 0 := rfl); (have l20 : (20 : Int32).toInt = 20 := rfl); (have l6 : (6 : Int32).toInt = 6 := rfl);  omega) d7_begin_143 (rfl) ?_
              refine lv_iconst (v := 2) hx hb d7_begin_144 (by decide) ?_
              refine lv_icmp_ne (tgt := 153) hx hb d7_begin_145 (by decide) (fun c_541 => ?_) (fun c_541 => ?_)
              · refine lv_aload_n hx hb d7_begin_153 rfl (lv_at hl 3 rfl) ?_
                refine sr_get (v := .int (S 20 0 27)) hx hb hw hown hK hB 27 (hX 20 (by decide)) cf_20 us7 (by decide) fl_7_81 (rfl) d7_begin_154 ?_
                refine lv_if_lt (tgt := 165) hx hb d7_begin_157 (by decide) (fun c_542 => ?_) (fun c_542 => ?_)
                · refine lv_iconst (v := 0) hx hb d7_begin_165 (by decide) ?_
                  refine lv_istore (lv' := [(6, .int 0), (5, .int 1), (4, .int (A 42 0 (x2.toNatClampNeg))), (3, .int 1), (0, .ref (ad 20 0)), (1, .int x1), (2, .int x2)]) hx hb d7_begin_166 hl (by decide) rfl (fun ls hl => ?_)
                  refine lv_iload hx hb d7_begin_168 (lv_at hl 0 rfl) ?_
                  refine lv_if_ne (tgt := 198) hx hb d7_begin_170 (by decide) (fun c => absurd (by decide) c) (fun _ => ?_)
                  refine lv_iload_n hx hb d7_begin_173 rfl (lv_at hl 5 rfl) ?_
                  refine lv_iconst (v := 3) hx hb d7_begin_174 (by decide) ?_
                  refine lv_icmp_eq (tgt := 187) hx hb d7_begin_175 (by decide) (fun c => absurd c (by rw [c_3]; decide)) (fun _ => ?_)
                  refine lv_iload_n hx hb d7_begin_178 rfl (lv_at hl 5 rfl) ?_
                  refine lv_if_ne (tgt := 198) hx hb d7_begin_179 (by decide) (fun c => absurd c_3 c) (fun _ => ?_)
                  refine lv_iload hx hb d7_begin_182 (lv_at hl 1 rfl) ?_
                  refine lv_if_eq (tgt := 198) hx hb d7_begin_184 (by decide) (fun c => absurd c (by decide)) (fun _ => ?_)
                  refine lv_aload_n hx hb d7_begin_187 rfl (lv_at hl 4 rfl) ?_
                  refine sr_vp C0 hB (m7_isWatched hX  ) (hX 20 (by decide)) cf_20 ml_7_143 im_7_isWatched se_7_isWatched in_7 cd_7_isWatched hd7_isWatched ⟨⟨rfl, rfl⟩, by decide, by decide⟩ ⟨Nat.zero_le _, Nat.zero_le _⟩ hl.1 rfl (Nat.le_of_ble_eq_true rfl) d7_begin_188 ?_
                  refine lv_if_ne (tgt := 198) hx hb d7_begin_191 (by decide) (fun c_547 => ?_) (fun c_547 => ?_)
                  · refine lv_iload hx hb d7_begin_198 (lv_at hl 0 rfl) ?_
                    refine lv_if_ne (tgt := 219) hx hb d7_begin_200 (by decide) (fun c => absurd (by decide) c) (fun _ => ?_)
                    refine lv_iload_n hx hb d7_begin_203 rfl (lv_at hl 5 rfl) ?_
                    refine lv_if_ne (tgt := 219) hx hb d7_begin_204 (by decide) (fun c => absurd c_3 c) (fun _ => ?_)
                    refine lv_aload_n hx hb d7_begin_207 rfl (lv_at hl 4 rfl) ?_
                    refine lv_iload_n hx hb d7_begin_208 rfl (lv_at hl 6 rfl) ?_
                    refine sr_vp C0 hB (m7_mayTake hX x2 (by (have a1 := sub1_i (x := S 20 0 20) (by omega)); (have kc_1 := in_t c_1); (have kc_3 := congrArg Int32.toInt c_3); (have kc_451 := hasOrder_t c_451); (have l0 : (0 : Int32).toInt = 0 := rfl); (have l3 : (3 : Int32).toInt = 3 := rfl);  first | assumption | omega)) (hX 20 (by decide)) cf_20 ml_7_147 im_7_mayTake se_7_mayTake in_7 cd_7_mayTake hd7_mayTake ⟨⟨rfl, rfl⟩, by decide, by decide⟩ ⟨Nat.zero_le _, Nat.zero_le _⟩ hl.1 rfl (Nat.le_of_ble_eq_true rfl) d7_begin_209 ?_
                    refine lv_if_ne (tgt := 219) hx hb d7_begin_212 (by decide) (fun c_550 => ?_) (fun c_550 => ?_)
                    · refine lv_iload_n hx hb d7_begin_219 rfl (lv_at hl 5 rfl) ?_
                      refine lv_if_ne (tgt := 232) hx hb d7_begin_220 (by decide) (fun c => absurd c_3 c) (fun _ => ?_)
                      refine lv_aload_n hx hb d7_begin_223 rfl (lv_at hl 4 rfl) ?_
                      refine lv_iload hx hb d7_begin_224 (lv_at hl 2 rfl) ?_
                      refine sr_vp C0 hB (m7_chosen hX (A 42 0 (x2.toNatClampNeg)) (by (have a1 := sub1_i (x := S 20 0 20) (by omega)); (have kc_451 := hasOrder_t c_451); (have kc_456 := nlt_i c_456); (have l0 : (0 : Int32).toInt = 0 := rfl); (have l42 : (42 : Int32).toInt = 42 := rfl);  first | assumption | omega)) (hX 20 (by decide)) cf_20 ml_7_150 im_7_chosen se_7_chosen in_7 cd_7_chosen hd7_chosen ⟨⟨rfl, rfl⟩, by decide, by decide⟩ ⟨Nat.zero_le _, Nat.zero_le _⟩ hl.1 rfl (Nat.le_of_ble_eq_true rfl) d7_begin_226 ?_
                      refine lv_goto (tgt := 233) hx hb d7_begin_229 (by decide) ?_
                      refine lv_istore (lv' := [(7, .int (V7_chosen S A G (A 42 0 (x2.toNatClampNeg)))), (6, .int 0), (5, .int 1), (4, .int (A 42 0 (x2.toNatClampNeg))), (3, .int 1), (0, .ref (ad 20 0)), (1, .int x1), (2, .int x2)]) hx hb d7_begin_233 hl (by decide) rfl (fun ls hl => ?_)
                      refine lv_iload hx hb d7_begin_235 (lv_at hl 1 rfl) ?_
                      refine lv_if_ne (tgt := 285) hx hb d7_begin_237 (by decide) (fun c => absurd (by decide) c) (fun _ => ?_)
                      refine lv_iload hx hb d7_begin_240 (lv_at hl 0 rfl) ?_
                      refine lv_if_ge (tgt := 250) hx hb d7_begin_242 (by decide) (fun c_553 => ?_) (fun c_553 => ?_)
                      · refine lv_aload_n hx hb d7_begin_250 rfl (lv_at hl 5 rfl) ?_
                        refine sr_get (v := .int (S 20 0 34)) hx hb hw hown hK hB 34 (hX 20 (by decide)) cf_20 us7 (by decide) fl_7_130 (rfl) d7_begin_251 ?_
                        refine lv_sipush (v := 290) hx hb d7_begin_254 (by decide) ?_
                        refine lv_icmp_ge (tgt := 277) hx hb d7_begin_257 (by decide) (fun c_554 => ?_) (fun c_554 => ?_)
                        · refine lv_bipush (v := (-8)) hx hb d7_begin_277 (by decide) ?_
                          refine lv_goto (tgt := 283) hx hb d7_begin_279 (by decide) ?_
                          refine lv_istore (lv' := [(6, .int (-8)), (7, .int (V7_chosen S A G (A 42 0 (x2.toNatClampNeg)))), (5, .int 1), (4, .int (A 42 0 (x2.toNatClampNeg))), (3, .int 1), (0, .ref (ad 20 0)), (1, .int x1), (2, .int x2)]) hx hb d7_begin_283 hl (by decide) rfl (fun ls hl => ?_)
                          refine lv_iload hx hb d7_begin_285 (lv_at hl 0 rfl) ?_
                          refine lv_if_ge (tgt := 293) hx hb d7_begin_287 (by decide) (fun c => absurd c (by decide)) (fun _ => ?_)
                          refine lv_iload hx hb d7_begin_290 (lv_at hl 0 rfl) ?_
                          exact se_i C0 hB (by rw [if_neg c_1, if_pos c_3, if_neg c_451, if_neg c_456, if_neg c_497, if_pos c_539, if_neg c_541, if_pos c_542, if_neg c_547, if_neg c_550, if_pos c_553, if_pos c_554] at hO; exact hO) d7_begin_292
                        · refine lv_iload_n hx hb d7_begin_260 rfl (lv_at hl 6 rfl) ?_
                          refine lv_iconst (v := 1) hx hb d7_begin_261 (by decide) ?_
                          refine lv_icmp_ne (tgt := 282) hx hb d7_begin_262 (by decide) (fun _ => ?_) (fun c => absurd c (by rw [c_3]; decide))
                          refine lv_iconst (v := 0) hx hb d7_begin_282 (by decide) ?_
                          refine lv_istore (lv' := [(6, .int 0), (7, .int (V7_chosen S A G (A 42 0 (x2.toNatClampNeg)))), (5, .int 1), (4, .int (A 42 0 (x2.toNatClampNeg))), (3, .int 1), (0, .ref (ad 20 0)), (1, .int x1), (2, .int x2)]) hx hb d7_begin_283 hl (by decide) rfl (fun ls hl => ?_)
                          refine lv_iload hx hb d7_begin_285 (lv_at hl 0 rfl) ?_
                          refine lv_if_ge (tgt := 293) hx hb d7_begin_287 (by decide) (fun _ => ?_) (fun c => absurd (by decide) c)
                          refine lv_aload_n hx hb d7_begin_293 rfl (lv_at hl 5 rfl) ?_
                          refine lv_iload_n hx hb d7_begin_294 rfl (lv_at hl 6 rfl) ?_
                          refine sr_put hx hb hw hown hK hB 27 (hX 20 (by decide)) cf_20 us7 tk7 nm7 (by decide) fl_7_81 rfl rfl rfl rfl d7_begin_295 (fun H locs hB => ?_)
                          refine lv_aload_n hx hb d7_begin_298 rfl (lv_at hl 5 rfl) ?_
                          refine lv_iload hx hb d7_begin_299 (lv_at hl 1 rfl) ?_
                          refine sr_put hx hb hw hown hK hB 28 (hX 20 (by decide)) cf_20 us7 tk7 nm7 (by decide) fl_7_153 rfl rfl rfl rfl d7_begin_301 (fun H locs hB => ?_)
                          refine lv_aload_n hx hb d7_begin_304 rfl (lv_at hl 5 rfl) ?_
                          refine lv_iload_n hx hb d7_begin_305 rfl (lv_at hl 6 rfl) ?_
                          refine lv_if_ne (tgt := 313) hx hb d7_begin_306 (by decide) (fun c => absurd c_3 c) (fun _ => ?_)
                          refine lv_iload_n hx hb d7_begin_309 rfl (lv_at hl 7 rfl) ?_
                          refine lv_goto (tgt := 314) hx hb d7_begin_310 (by decide) ?_
                          refine sr_put hx hb hw hown hK hB 29 (hX 20 (by decide)) cf_20 us7 tk7 nm7 (by decide) fl_7_124 rfl rfl rfl rfl d7_begin_314 (fun H locs hB => ?_)
                          refine lv_aload_n hx hb d7_begin_317 rfl (lv_at hl 5 rfl) ?_
                          refine lv_aload_n hx hb d7_begin_318 rfl (lv_at hl 5 rfl) ?_
                          refine sr_get (v := .int (S 20 0 0)) hx hb hw hown hK hB 0 (hX 20 (by decide)) cf_20 us7 (by decide) fl_7_100 (rfl) d7_begin_319 ?_
                          refine sr_put hx hb hw hown hK hB 30 (hX 20 (by decide)) cf_20 us7 tk7 nm7 (by decide) fl_7_156 rfl rfl rfl rfl d7_begin_322 (fun H locs hB => ?_)
                          refine lv_aload_n hx hb d7_begin_325 rfl (lv_at hl 5 rfl) ?_
                          refine lv_iload_n hx hb d7_begin_326 rfl (lv_at hl 6 rfl) ?_
                          refine lv_iconst (v := 2) hx hb d7_begin_327 (by decide) ?_
                          refine lv_icmp_eq (tgt := 336) hx hb d7_begin_328 (by decide) (fun c => absurd c (by rw [c_3]; decide)) (fun _ => ?_)
                          refine lv_iload hx hb d7_begin_331 (lv_at hl 2 rfl) ?_
                          refine lv_if_eq (tgt := 340) hx hb d7_begin_333 (by decide) (fun c => absurd c (by decide)) (fun _ => ?_)
                          refine lv_iconst (v := 1) hx hb d7_begin_336 (by decide) ?_
                          refine lv_goto (tgt := 341) hx hb d7_begin_337 (by decide) ?_
                          refine sr_put hx hb hw hown hK hB 31 (hX 20 (by decide)) cf_20 us7 tk7 nm7 (by decide) fl_7_159 rfl rfl rfl rfl d7_begin_341 (fun H locs hB => ?_)
                          refine lv_aload_n hx hb d7_begin_344 rfl (lv_at hl 5 rfl) ?_
                          refine lv_iconst (v := 0) hx hb d7_begin_345 (by decide) ?_
                          refine sr_put hx hb hw hown hK hB 32 (hX 20 (by decide)) cf_20 us7 tk7 nm7 (by decide) fl_7_163 rfl rfl rfl rfl d7_begin_346 (fun H locs hB => ?_)
                          refine lv_aload_n hx hb d7_begin_349 rfl (lv_at hl 5 rfl) ?_
                          refine lv_iconst (v := 0) hx hb d7_begin_350 (by decide) ?_
                          refine sr_put hx hb hw hown hK hB 33 (hX 20 (by decide)) cf_20 us7 tk7 nm7 (by decide) fl_7_166 rfl rfl rfl rfl d7_begin_351 (fun H locs hB => ?_)
                          refine lv_aload_n hx hb d7_begin_354 rfl (lv_at hl 5 rfl) ?_
                          refine lv_aload_n hx hb d7_begin_355 rfl (lv_at hl 5 rfl) ?_
                          refine sr_get (v := .int (S 20 0 0)) hx hb hw hown hK hB 0 (hX 20 (by decide)) cf_20 us7 (by decide) fl_7_100 (rfl) d7_begin_356 ?_
                          refine sr_put hx hb hw hown hK hB 7 (hX 20 (by decide)) cf_20 us7 tk7 nm7 (by decide) fl_7_114 rfl rfl rfl rfl d7_begin_359 (fun H locs hB => ?_)
                          refine lv_iload hx hb d7_begin_362 (lv_at hl 1 rfl) ?_
                          exact se_i C0 hB (by rw [if_neg c_1, if_pos c_3, if_neg c_451, if_neg c_456, if_neg c_497, if_pos c_539, if_neg c_541, if_pos c_542, if_neg c_547, if_neg c_550, if_pos c_553, if_neg c_554] at hO; exact hO) d7_begin_364
                      · refine lv_bipush (v := (-7)) hx hb d7_begin_245 (by decide) ?_
                        refine lv_goto (tgt := 283) hx hb d7_begin_247 (by decide) ?_
                        refine lv_istore (lv' := [(6, .int (-7)), (7, .int (V7_chosen S A G (A 42 0 (x2.toNatClampNeg)))), (5, .int 1), (4, .int (A 42 0 (x2.toNatClampNeg))), (3, .int 1), (0, .ref (ad 20 0)), (1, .int x1), (2, .int x2)]) hx hb d7_begin_283 hl (by decide) rfl (fun ls hl => ?_)
                        refine lv_iload hx hb d7_begin_285 (lv_at hl 0 rfl) ?_
                        refine lv_if_ge (tgt := 293) hx hb d7_begin_287 (by decide) (fun c => absurd c (by decide)) (fun _ => ?_)
                        refine lv_iload hx hb d7_begin_290 (lv_at hl 0 rfl) ?_
                        exact se_i C0 hB (by rw [if_neg c_1, if_pos c_3, if_neg c_451, if_neg c_456, if_neg c_497, if_pos c_539, if_neg c_541, if_pos c_542, if_neg c_547, if_neg c_550, if_neg c_553] at hO; exact hO) d7_begin_292
                    · refine lv_bipush (v := (-6)) hx hb d7_begin_215 (by decide) ?_
                      refine lv_istore (lv' := [(6, .int (-6)), (5, .int 1), (4, .int (A 42 0 (x2.toNatClampNeg))), (3, .int 1), (0, .ref (ad 20 0)), (1, .int x1), (2, .int x2)]) hx hb d7_begin_217 hl (by decide) rfl (fun ls hl => ?_)
                      refine lv_iload_n hx hb d7_begin_219 rfl (lv_at hl 5 rfl) ?_
                      refine lv_if_ne (tgt := 232) hx hb d7_begin_220 (by decide) (fun c => absurd c_3 c) (fun _ => ?_)
                      refine lv_aload_n hx hb d7_begin_223 rfl (lv_at hl 4 rfl) ?_
                      refine lv_iload hx hb d7_begin_224 (lv_at hl 2 rfl) ?_
                      refine sr_vp C0 hB (m7_chosen hX (A 42 0 (x2.toNatClampNeg)) (by (have a1 := sub1_i (x := S 20 0 20) (by omega)); (have kc_451 := hasOrder_t c_451); (have kc_456 := nlt_i c_456); (have l0 : (0 : Int32).toInt = 0 := rfl); (have l42 : (42 : Int32).toInt = 42 := rfl);  first | assumption | omega)) (hX 20 (by decide)) cf_20 ml_7_150 im_7_chosen se_7_chosen in_7 cd_7_chosen hd7_chosen ⟨⟨rfl, rfl⟩, by decide, by decide⟩ ⟨Nat.zero_le _, Nat.zero_le _⟩ hl.1 rfl (Nat.le_of_ble_eq_true rfl) d7_begin_226 ?_
                      refine lv_goto (tgt := 233) hx hb d7_begin_229 (by decide) ?_
                      refine lv_istore (lv' := [(7, .int (V7_chosen S A G (A 42 0 (x2.toNatClampNeg)))), (6, .int (-6)), (5, .int 1), (4, .int (A 42 0 (x2.toNatClampNeg))), (3, .int 1), (0, .ref (ad 20 0)), (1, .int x1), (2, .int x2)]) hx hb d7_begin_233 hl (by decide) rfl (fun ls hl => ?_)
                      refine lv_iload hx hb d7_begin_235 (lv_at hl 1 rfl) ?_
                      refine lv_if_ne (tgt := 285) hx hb d7_begin_237 (by decide) (fun _ => ?_) (fun c => absurd c (by decide))
                      refine lv_iload hx hb d7_begin_285 (lv_at hl 1 rfl) ?_
                      refine lv_if_ge (tgt := 293) hx hb d7_begin_287 (by decide) (fun c => absurd c (by decide)) (fun _ => ?_)
                      refine lv_iload hx hb d7_begin_290 (lv_at hl 1 rfl) ?_
                      exact se_i C0 hB (by rw [if_neg c_1, if_pos c_3, if_neg c_451, if_neg c_456, if_neg c_497, if_pos c_539, if_neg c_541, if_pos c_542, if_neg c_547, if_pos c_550] at hO; exact hO) d7_begin_292
                  · refine lv_bipush (v := (-5)) hx hb d7_begin_194 (by decide) ?_
                    refine lv_istore (lv' := [(6, .int (-5)), (5, .int 1), (4, .int (A 42 0 (x2.toNatClampNeg))), (3, .int 1), (0, .ref (ad 20 0)), (1, .int x1), (2, .int x2)]) hx hb d7_begin_196 hl (by decide) rfl (fun ls hl => ?_)
                    refine lv_iload hx hb d7_begin_198 (lv_at hl 0 rfl) ?_
                    refine lv_if_ne (tgt := 219) hx hb d7_begin_200 (by decide) (fun _ => ?_) (fun c => absurd c (by decide))
                    refine lv_iload_n hx hb d7_begin_219 rfl (lv_at hl 5 rfl) ?_
                    refine lv_if_ne (tgt := 232) hx hb d7_begin_220 (by decide) (fun c => absurd c_3 c) (fun _ => ?_)
                    refine lv_aload_n hx hb d7_begin_223 rfl (lv_at hl 4 rfl) ?_
                    refine lv_iload hx hb d7_begin_224 (lv_at hl 2 rfl) ?_
                    refine sr_vp C0 hB (m7_chosen hX (A 42 0 (x2.toNatClampNeg)) (by (have a1 := sub1_i (x := S 20 0 20) (by omega)); (have kc_451 := hasOrder_t c_451); (have kc_456 := nlt_i c_456); (have l0 : (0 : Int32).toInt = 0 := rfl); (have l42 : (42 : Int32).toInt = 42 := rfl);  first | assumption | omega)) (hX 20 (by decide)) cf_20 ml_7_150 im_7_chosen se_7_chosen in_7 cd_7_chosen hd7_chosen ⟨⟨rfl, rfl⟩, by decide, by decide⟩ ⟨Nat.zero_le _, Nat.zero_le _⟩ hl.1 rfl (Nat.le_of_ble_eq_true rfl) d7_begin_226 ?_
                    refine lv_goto (tgt := 233) hx hb d7_begin_229 (by decide) ?_
                    refine lv_istore (lv' := [(7, .int (V7_chosen S A G (A 42 0 (x2.toNatClampNeg)))), (6, .int (-5)), (5, .int 1), (4, .int (A 42 0 (x2.toNatClampNeg))), (3, .int 1), (0, .ref (ad 20 0)), (1, .int x1), (2, .int x2)]) hx hb d7_begin_233 hl (by decide) rfl (fun ls hl => ?_)
                    refine lv_iload hx hb d7_begin_235 (lv_at hl 1 rfl) ?_
                    refine lv_if_ne (tgt := 285) hx hb d7_begin_237 (by decide) (fun _ => ?_) (fun c => absurd c (by decide))
                    refine lv_iload hx hb d7_begin_285 (lv_at hl 1 rfl) ?_
                    refine lv_if_ge (tgt := 293) hx hb d7_begin_287 (by decide) (fun c => absurd c (by decide)) (fun _ => ?_)
                    refine lv_iload hx hb d7_begin_290 (lv_at hl 1 rfl) ?_
                    exact se_i C0 hB (by rw [if_neg c_1, if_pos c_3, if_neg c_451, if_neg c_456, if_neg c_497, if_pos c_539, if_neg c_541, if_pos c_542, if_pos c_547] at hO; exact hO) d7_begin_292
                · refine lv_bipush (v := (-4)) hx hb d7_begin_160 (by decide) ?_
                  refine lv_goto (tgt := 166) hx hb d7_begin_162 (by decide) ?_
                  refine lv_istore (lv' := [(6, .int (-4)), (5, .int 1), (4, .int (A 42 0 (x2.toNatClampNeg))), (3, .int 1), (0, .ref (ad 20 0)), (1, .int x1), (2, .int x2)]) hx hb d7_begin_166 hl (by decide) rfl (fun ls hl => ?_)
                  refine lv_iload hx hb d7_begin_168 (lv_at hl 0 rfl) ?_
                  refine lv_if_ne (tgt := 198) hx hb d7_begin_170 (by decide) (fun _ => ?_) (fun c => absurd c (by decide))
                  refine lv_iload hx hb d7_begin_198 (lv_at hl 0 rfl) ?_
                  refine lv_if_ne (tgt := 219) hx hb d7_begin_200 (by decide) (fun _ => ?_) (fun c => absurd c (by decide))
                  refine lv_iload_n hx hb d7_begin_219 rfl (lv_at hl 5 rfl) ?_
                  refine lv_if_ne (tgt := 232) hx hb d7_begin_220 (by decide) (fun c => absurd c_3 c) (fun _ => ?_)
                  refine lv_aload_n hx hb d7_begin_223 rfl (lv_at hl 4 rfl) ?_
                  refine lv_iload hx hb d7_begin_224 (lv_at hl 2 rfl) ?_
                  refine sr_vp C0 hB (m7_chosen hX (A 42 0 (x2.toNatClampNeg)) (by (have a1 := sub1_i (x := S 20 0 20) (by omega)); (have kc_451 := hasOrder_t c_451); (have kc_456 := nlt_i c_456); (have l0 : (0 : Int32).toInt = 0 := rfl); (have l42 : (42 : Int32).toInt = 42 := rfl);  first | assumption | omega)) (hX 20 (by decide)) cf_20 ml_7_150 im_7_chosen se_7_chosen in_7 cd_7_chosen hd7_chosen ⟨⟨rfl, rfl⟩, by decide, by decide⟩ ⟨Nat.zero_le _, Nat.zero_le _⟩ hl.1 rfl (Nat.le_of_ble_eq_true rfl) d7_begin_226 ?_
                  refine lv_goto (tgt := 233) hx hb d7_begin_229 (by decide) ?_
                  refine lv_istore (lv' := [(7, .int (V7_chosen S A G (A 42 0 (x2.toNatClampNeg)))), (6, .int (-4)), (5, .int 1), (4, .int (A 42 0 (x2.toNatClampNeg))), (3, .int 1), (0, .ref (ad 20 0)), (1, .int x1), (2, .int x2)]) hx hb d7_begin_233 hl (by decide) rfl (fun ls hl => ?_)
                  refine lv_iload hx hb d7_begin_235 (lv_at hl 1 rfl) ?_
                  refine lv_if_ne (tgt := 285) hx hb d7_begin_237 (by decide) (fun _ => ?_) (fun c => absurd c (by decide))
                  refine lv_iload hx hb d7_begin_285 (lv_at hl 1 rfl) ?_
                  refine lv_if_ge (tgt := 293) hx hb d7_begin_287 (by decide) (fun c => absurd c (by decide)) (fun _ => ?_)
                  refine lv_iload hx hb d7_begin_290 (lv_at hl 1 rfl) ?_
                  exact se_i C0 hB (by rw [if_neg c_1, if_pos c_3, if_neg c_451, if_neg c_456, if_neg c_497, if_pos c_539, if_neg c_541, if_neg c_542] at hO; exact hO) d7_begin_292
              · refine lv_bipush (v := (-3)) hx hb d7_begin_148 (by decide) ?_
                refine lv_goto (tgt := 166) hx hb d7_begin_150 (by decide) ?_
                refine lv_istore (lv' := [(6, .int (-3)), (5, .int 1), (4, .int (A 42 0 (x2.toNatClampNeg))), (3, .int 1), (0, .ref (ad 20 0)), (1, .int x1), (2, .int x2)]) hx hb d7_begin_166 hl (by decide) rfl (fun ls hl => ?_)
                refine lv_iload hx hb d7_begin_168 (lv_at hl 0 rfl) ?_
                refine lv_if_ne (tgt := 198) hx hb d7_begin_170 (by decide) (fun _ => ?_) (fun c => absurd c (by decide))
                refine lv_iload hx hb d7_begin_198 (lv_at hl 0 rfl) ?_
                refine lv_if_ne (tgt := 219) hx hb d7_begin_200 (by decide) (fun _ => ?_) (fun c => absurd c (by decide))
                refine lv_iload_n hx hb d7_begin_219 rfl (lv_at hl 5 rfl) ?_
                refine lv_if_ne (tgt := 232) hx hb d7_begin_220 (by decide) (fun c => absurd c_3 c) (fun _ => ?_)
                refine lv_aload_n hx hb d7_begin_223 rfl (lv_at hl 4 rfl) ?_
                refine lv_iload hx hb d7_begin_224 (lv_at hl 2 rfl) ?_
                refine sr_vp C0 hB (m7_chosen hX (A 42 0 (x2.toNatClampNeg)) (by (have a1 := sub1_i (x := S 20 0 20) (by omega)); (have kc_451 := hasOrder_t c_451); (have kc_456 := nlt_i c_456); (have l0 : (0 : Int32).toInt = 0 := rfl); (have l42 : (42 : Int32).toInt = 42 := rfl);  first | assumption | omega)) (hX 20 (by decide)) cf_20 ml_7_150 im_7_chosen se_7_chosen in_7 cd_7_chosen hd7_chosen ⟨⟨rfl, rfl⟩, by decide, by decide⟩ ⟨Nat.zero_le _, Nat.zero_le _⟩ hl.1 rfl (Nat.le_of_ble_eq_true rfl) d7_begin_226 ?_
                refine lv_goto (tgt := 233) hx hb d7_begin_229 (by decide) ?_
                refine lv_istore (lv' := [(7, .int (V7_chosen S A G (A 42 0 (x2.toNatClampNeg)))), (6, .int (-3)), (5, .int 1), (4, .int (A 42 0 (x2.toNatClampNeg))), (3, .int 1), (0, .ref (ad 20 0)), (1, .int x1), (2, .int x2)]) hx hb d7_begin_233 hl (by decide) rfl (fun ls hl => ?_)
                refine lv_iload hx hb d7_begin_235 (lv_at hl 1 rfl) ?_
                refine lv_if_ne (tgt := 285) hx hb d7_begin_237 (by decide) (fun _ => ?_) (fun c => absurd c (by decide))
                refine lv_iload hx hb d7_begin_285 (lv_at hl 1 rfl) ?_
                refine lv_if_ge (tgt := 293) hx hb d7_begin_287 (by decide) (fun c => absurd c (by decide)) (fun _ => ?_)
                refine lv_iload hx hb d7_begin_290 (lv_at hl 1 rfl) ?_
                exact se_i C0 hB (by rw [if_neg c_1, if_pos c_3, if_neg c_451, if_neg c_456, if_neg c_497, if_pos c_539, if_pos c_541] at hO; exact hO) d7_begin_292
            · refine lv_bipush (v := (-2)) hx hb d7_begin_112 (by decide) ?_
              refine lv_goto (tgt := 166) hx hb d7_begin_114 (by decide) ?_
              refine lv_istore (lv' := [(6, .int (-2)), (5, .int 1), (4, .int (A 42 0 (x2.toNatClampNeg))), (3, .int 1), (0, .ref (ad 20 0)), (1, .int x1), (2, .int x2)]) hx hb d7_begin_166 hl (by decide) rfl (fun ls hl => ?_)
              refine lv_iload hx hb d7_begin_168 (lv_at hl 0 rfl) ?_
              refine lv_if_ne (tgt := 198) hx hb d7_begin_170 (by decide) (fun _ => ?_) (fun c => absurd c (by decide))
              refine lv_iload hx hb d7_begin_198 (lv_at hl 0 rfl) ?_
              refine lv_if_ne (tgt := 219) hx hb d7_begin_200 (by decide) (fun _ => ?_) (fun c => absurd c (by decide))
              refine lv_iload_n hx hb d7_begin_219 rfl (lv_at hl 5 rfl) ?_
              refine lv_if_ne (tgt := 232) hx hb d7_begin_220 (by decide) (fun c => absurd c_3 c) (fun _ => ?_)
              refine lv_aload_n hx hb d7_begin_223 rfl (lv_at hl 4 rfl) ?_
              refine lv_iload hx hb d7_begin_224 (lv_at hl 2 rfl) ?_
              refine sr_vp C0 hB (m7_chosen hX (A 42 0 (x2.toNatClampNeg)) (by (have a1 := sub1_i (x := S 20 0 20) (by omega)); (have kc_451 := hasOrder_t c_451); (have kc_456 := nlt_i c_456); (have l0 : (0 : Int32).toInt = 0 := rfl); (have l42 : (42 : Int32).toInt = 42 := rfl);  first | assumption | omega)) (hX 20 (by decide)) cf_20 ml_7_150 im_7_chosen se_7_chosen in_7 cd_7_chosen hd7_chosen ⟨⟨rfl, rfl⟩, by decide, by decide⟩ ⟨Nat.zero_le _, Nat.zero_le _⟩ hl.1 rfl (Nat.le_of_ble_eq_true rfl) d7_begin_226 ?_
              refine lv_goto (tgt := 233) hx hb d7_begin_229 (by decide) ?_
              refine lv_istore (lv' := [(7, .int (V7_chosen S A G (A 42 0 (x2.toNatClampNeg)))), (6, .int (-2)), (5, .int 1), (4, .int (A 42 0 (x2.toNatClampNeg))), (3, .int 1), (0, .ref (ad 20 0)), (1, .int x1), (2, .int x2)]) hx hb d7_begin_233 hl (by decide) rfl (fun ls hl => ?_)
              refine lv_iload hx hb d7_begin_235 (lv_at hl 1 rfl) ?_
              refine lv_if_ne (tgt := 285) hx hb d7_begin_237 (by decide) (fun _ => ?_) (fun c => absurd c (by decide))
              refine lv_iload hx hb d7_begin_285 (lv_at hl 1 rfl) ?_
              refine lv_if_ge (tgt := 293) hx hb d7_begin_287 (by decide) (fun c => absurd c (by decide)) (fun _ => ?_)
              refine lv_iload hx hb d7_begin_290 (lv_at hl 1 rfl) ?_
              exact se_i C0 hB (by rw [if_neg c_1, if_pos c_3, if_neg c_451, if_neg c_456, if_neg c_497, if_neg c_539] at hO; exact hO) d7_begin_292
theorem hd7_begin : y7_begin.cls = R7 ∧ y7_begin.cls ≠ "java/lang/invoke/MethodHandle" ∧ y7_begin.cls ≠ "java/lang/invoke/VarHandle" ∧ (parseMethodDescriptor y7_begin.desc).map (fun d => d.parameters.length) = some 2 := ⟨rfl, by decide, by decide, by decide +kernel⟩
theorem m7_begin {l : Launch} {D : va_G} {aC : Nat → ClassId} {ad : Nat → Nat → Nat} {X : Nat → Nat → Prop} {S A : sS} {G : sG} (hX : xR X) (x1 : Int32) (x2 : Int32) (hwho : (S 20 0 6).toInt < 16) (hord : 0 ≤ (S 20 0 20).toInt ∧ (S 20 0 20).toInt ≤ 60) (hlo : ∀ i, i < 64 → 0 ≤ (A 36 0 i).toInt ∧ (A 36 0 i).toInt ≤ 6) (hen : 0 ≤ (S 20 0 34).toInt ∧ (S 20 0 34).toInt ≤ 300) (hit : ∀ i, i < 64 → (A 35 0 i).toInt < 32) (hoi : ∀ i, i < 60 → 0 ≤ (A 42 0 i).toInt ∧ (A 42 0 i).toInt < 32) : Met l y7_begin (.code y7_begin b7_begin 8 (some .int) :: wall) (rmk 2) (s_Pc [.ref (ad 20 0), .int x1, .int x2] D aC ad X S A G) (s_Qi D aC ad X G (O7_begin S A G x1 x2)) 0 0 (s_N ad X) :=
  s_met (by decide) rfl (Nat.le_of_ble_eq_true rfl) (fun p e s m args below meth c C0 hB ls hl => k7_begin_0 C0 hB hX x1 x2 hwho hord hlo hen hit hoi hl rfl)
