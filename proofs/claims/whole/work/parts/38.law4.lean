/-! the law's loop, and its walk as a whole, over any invariant -/
section LLOOP
variable {p : Program} {l : Launch} {e : Env} {s : State} {m : MethodId} {below : List Frame} {meth : Method} {c : Code} {D : va_G} {aC : Nat → ClassId} {b L : Nat} {xs : Nat → Int32} {Inv : Nat → sS → sS → sG → Prop}
theorem i5 {n : Nat} (h : n < 1000) : (nI (5 * n)).toInt = 5 * n := by rw [nI_toInt (by omega)]; omega
theorem i5k {n : Nat} {k : Int32} (h : n < 512) (h1 : 1 ≤ k) (h2 : k ≤ 4) {L : Nat} (hL : 5 * n + 5 ≤ L) : vp_in (nI (5 * n) + k) L := by
  have a := i5 (n := n) (by omega)
  have b1 := le_i h1
  have b2 := le_i h2
  have c1 : (1 : Int32).toInt = 1 := by decide
  have c2 : (4 : Int32).toInt = 4 := by decide
  have d := add_i (x := nI (5 * n)) (y := k) (by omega) (by omega)
  exact vp_in_iff.mpr (by omega)
set_option maxRecDepth 100000 in
set_option maxHeartbeats 8000000 in
theorem law_loop (C0 : s_C p s m #[Value.ref b] meth c code 4 RL ret D aC) (hXs : va_X b L xs s s.heap) (hbl : b < s.heap.size) (hL : L ≤ 2560) (mono : ∀ n S A G, Inv n S A G → Inv (n + 1) S A G) (s0 : st_user Inv) (s1 : st_item Inv) (s2 : st_login Inv) (s3 : st_logout Inv) (s4 : st_witness Inv) (s5 : st_tick Inv) (s6 : st_order Inv) (s7 : st_cancel Inv) (s8 : st_begin Inv) (s9 : st_count Inv) (s10 : st_amount Inv) (s11 : st_shut Inv) (s12 : st_giveBack Inv) (s13 : st_reconcile Inv) (s14 : st_mismatch Inv) (s15 : st_bin Inv) (s16 : st_lot Inv) (s17 : st_stock Inv) (s18 : st_wanted Inv) (s19 : st_orderTold Inv) (s20 : st_alarms Inv) (s21 : st_told Inv) (s22 : st_entry Inv) (s23 : st_lose Inv) (s24 : st_repair Inv) (s25 : st_audit Inv) : ∀ (r n : Nat), 512 < n + r → n ≤ 512 → ∀ (ad : Nat → Nat → Nat) (X : Nat → Nat → Prop) (S A : sS) (G : sG) (H : Heap) (locs : List Loc) (ls : Array Slot) (cells slots : Nat), s_B D aC ad X (fun q => s.heap.size ≤ q) S A G s.heap H locs → XI X G → Inv n S A G → lv_has ls 4 [(0, .ref b), (1, .ref (ad 0 0)), (2, .ref (ad 20 0)), (3, .int (nI (5 * n)))] → cells ≤ 230 + n → slots ≤ 8578 + 7 * n → W p l e room_1 s m #[Value.ref b] below meth c H locs cells slots (lw_Z below #[Value.ref b] s) (F0 m 18 ls []) := by
  intro r
  induction r with
  | zero => intro n h1 h2; omega
  | succ r ih =>
    intro n h1 h2 ad X S A G H locs ls cells slots hB hX hI hl hc hs
    obtain ⟨hx, hb, -, -, -, -, hr, hlocks⟩ := id C0
    have hbA : ¬ (fun q : Nat => s.heap.size ≤ q) b := fun z => absurd hbl (Nat.not_lt.mpr z)
    refine lv_iload_n hx hb dL_law_18 rfl (lv_at hl 3 rfl) ?_
    refine lv_aload_n hx hb dL_law_19 rfl (lv_at hl 0 rfl) ?_
    refine va_slen hx hb hXs hbl hbA hB.2.2.1 dL_law_20 ?_
    refine lv_iconst (v := 5) hx hb dL_law_21 (by decide) ?_
    refine lv_isub hx hb dL_law_22 ?_
    have a1 := i5 (n := n) (by omega)
    have a2 : (Int32.ofNat L).toInt = L := nI_toInt (n := L) (by omega)
    have a3 : (5 : Int32).toInt = 5 := by decide
    have a4 := sub_i (x := Int32.ofNat L) (y := 5) (by omega) (by omega)
    refine lv_icmp_gt (tgt := 918) hx hb dL_law_23 (by decide) (fun q => ?_) (fun q => ?_)
    · refine va_forget (fun q hq => hB.2.2.1.2.2 q hq) ?_
      refine W.widen (k := 600000) (n := 7302250) (by omega) (by omega) ?_
      refine lv_iconst (v := 1) hx hb dL_law_918 (by decide) ?_
      exact lw_ret hx hb hr hlocks dL_law_919
    · have q1 := nlt_i q
      have hn5 : 5 * n + 5 ≤ L := by omega
      have hn : n < 512 := by omega
      have hv : ∀ k : Int32, 1 ≤ k → k ≤ 4 → vp_in (nI (5 * n) + k) L := fun k g1 g2 => i5k hn g1 g2 hn5
      have hk : lw_nx p l e s m below meth c D aC b Inv n := fun ad X S A G H locs ls cells slots hB hX hI hl hc hs => by
        refine lv_iinc (v := nI (5 * (n + 1))) (lv' := [(3, .int (nI (5 * (n + 1)))), (0, .ref b), (1, .ref (ad 0 0)), (2, .ref (ad 20 0))]) hx hb dL_law_912 hl (k := 3) rfl ?_ (by decide) rfl (fun ls hl => ?_)
        · refine Int32.toInt_inj.mp ?_
          have g1 := i5 (n := n + 1) (by omega)
          have g2 : (Int32.ofInt 5).toInt = 5 := by decide
          rw [add_i (by omega) (by omega), a1, g1, g2]
          omega
        · refine lv_goto (tgt := 18) hx hb dL_law_915 (by decide) ?_
          exact ih (n + 1) (by omega) (by omega) ad X S A G H locs ls cells slots hB hX hI (lv_sub hl [1, 2, 3, 0] rfl) (by omega) (by omega)
      refine lv_aload_n hx hb dL_law_26 rfl (lv_at hl 0 rfl) ?_
      refine lv_iload_n hx hb dL_law_27 rfl (lv_at hl 3 rfl) ?_
      refine va_sld hx hb hXs hbl hbA hB.2.2.1 (vp_in_iff.mpr (by omega)) dL_law_28 ?_
      refine lv_bipush (v := 31) hx hb dL_law_29 (by decide) ?_
      refine lv_iand hx hb dL_law_31 ?_
      generalize xs ((nI (5 * n)).toNatClampNeg) &&& 31 = x
      by_cases z0 : x = 0
      · refine lv_tableIn (tgt := 152) (off := 120) hx hb dL_law_32 (by rw [z0]; decide) (by rw [z0]; decide) (by rw [z0]; rfl) (by decide) ?_
        exact lc_user C0 hXs hbl hn hv s0 hB hX hI hl hc hs hk
      by_cases z1 : x = 1
      · refine lv_tableIn (tgt := 195) (off := 163) hx hb dL_law_32 (by rw [z1]; decide) (by rw [z1]; decide) (by rw [z1]; rfl) (by decide) ?_
        exact lc_item C0 hXs hbl hn hv s1 hB hX hI hl hc hs hk
      by_cases z2 : x = 2
      · refine lv_tableIn (tgt := 254) (off := 222) hx hb dL_law_32 (by rw [z2]; decide) (by rw [z2]; decide) (by rw [z2]; rfl) (by decide) ?_
        exact lc_login C0 hXs hbl hn hv s2 hB hX hI hl hc hs hk
      by_cases z3 : x = 3
      · refine lv_tableIn (tgt := 287) (off := 255) hx hb dL_law_32 (by rw [z3]; decide) (by rw [z3]; decide) (by rw [z3]; rfl) (by decide) ?_
        exact lc_logout C0 hXs hbl hn hv s3 hB hX hI hl hc hs hk
      by_cases z4 : x = 4
      · refine lv_tableIn (tgt := 300) (off := 268) hx hb dL_law_32 (by rw [z4]; decide) (by rw [z4]; decide) (by rw [z4]; rfl) (by decide) ?_
        exact lc_witness C0 hXs hbl hn hv s4 hB hX hI hl hc hs hk
      by_cases z5 : x = 5
      · refine lv_tableIn (tgt := 333) (off := 301) hx hb dL_law_32 (by rw [z5]; decide) (by rw [z5]; decide) (by rw [z5]; rfl) (by decide) ?_
        exact lc_tick C0 hXs hbl hn hv s5 hB hX hI hl hc hs hk
      by_cases z6 : x = 6
      · refine lv_tableIn (tgt := 356) (off := 324) hx hb dL_law_32 (by rw [z6]; decide) (by rw [z6]; decide) (by rw [z6]; rfl) (by decide) ?_
        exact lc_order C0 hXs hbl hn hv s6 hB hX hI hl hc hs hk
      by_cases z7 : x = 7
      · refine lv_tableIn (tgt := 409) (off := 377) hx hb dL_law_32 (by rw [z7]; decide) (by rw [z7]; decide) (by rw [z7]; rfl) (by decide) ?_
        exact lc_cancel C0 hXs hbl hn hv s7 hB hX hI hl hc hs hk
      by_cases z8 : x = 8
      · refine lv_tableIn (tgt := 432) (off := 400) hx hb dL_law_32 (by rw [z8]; decide) (by rw [z8]; decide) (by rw [z8]; rfl) (by decide) ?_
        exact lc_begin C0 hXs hbl hn hv s8 hB hX hI hl hc hs hk
      by_cases z9 : x = 9
      · refine lv_tableIn (tgt := 465) (off := 433) hx hb dL_law_32 (by rw [z9]; decide) (by rw [z9]; decide) (by rw [z9]; rfl) (by decide) ?_
        exact lc_count C0 hXs hbl hn hv s9 hB hX hI hl hc hs hk
      by_cases z10 : x = 10
      · refine lv_tableIn (tgt := 488) (off := 456) hx hb dL_law_32 (by rw [z10]; decide) (by rw [z10]; decide) (by rw [z10]; rfl) (by decide) ?_
        exact lc_amount C0 hXs hbl hn hv s10 hB hX hI hl hc hs hk
      by_cases z11 : x = 11
      · refine lv_tableIn (tgt := 531) (off := 499) hx hb dL_law_32 (by rw [z11]; decide) (by rw [z11]; decide) (by rw [z11]; rfl) (by decide) ?_
        exact lc_shut C0 hXs hbl hn hv s11 hB hX hI hl hc hs hk
      by_cases z12 : x = 12
      · refine lv_tableIn (tgt := 544) (off := 512) hx hb dL_law_32 (by rw [z12]; decide) (by rw [z12]; decide) (by rw [z12]; rfl) (by decide) ?_
        exact lc_giveBack C0 hXs hbl hn hv s12 hB hX hI hl hc hs hk
      by_cases z13 : x = 13
      · refine lv_tableIn (tgt := 577) (off := 545) hx hb dL_law_32 (by rw [z13]; decide) (by rw [z13]; decide) (by rw [z13]; rfl) (by decide) ?_
        exact lc_reconcile C0 hXs hbl hn hv s13 hB hX hI hl hc hs hk
      by_cases z14 : x = 14
      · refine lv_tableIn (tgt := 590) (off := 558) hx hb dL_law_32 (by rw [z14]; decide) (by rw [z14]; decide) (by rw [z14]; rfl) (by decide) ?_
        exact lc_mismatch C0 hXs hbl hn hv s14 hB hX hI hl hc hs hk
      by_cases z15 : x = 15
      · refine lv_tableIn (tgt := 613) (off := 581) hx hb dL_law_32 (by rw [z15]; decide) (by rw [z15]; decide) (by rw [z15]; rfl) (by decide) ?_
        exact lc_bin C0 hXs hbl hn hv s15 hB hX hI hl hc hs hk
      by_cases z16 : x = 16
      · refine lv_tableIn (tgt := 646) (off := 614) hx hb dL_law_32 (by rw [z16]; decide) (by rw [z16]; decide) (by rw [z16]; rfl) (by decide) ?_
        exact lc_lot C0 hXs hbl hn hv s16 hB hX hI hl hc hs hk
      by_cases z17 : x = 17
      · refine lv_tableIn (tgt := 705) (off := 673) hx hb dL_law_32 (by rw [z17]; decide) (by rw [z17]; decide) (by rw [z17]; rfl) (by decide) ?_
        exact lc_stock C0 hXs hbl hn hv s17 hB hX hI hl hc hs hk
      by_cases z18 : x = 18
      · refine lv_tableIn (tgt := 738) (off := 706) hx hb dL_law_32 (by rw [z18]; decide) (by rw [z18]; decide) (by rw [z18]; rfl) (by decide) ?_
        exact lc_wanted C0 hXs hbl hn hv s18 hB hX hI hl hc hs hk
      by_cases z19 : x = 19
      · refine lv_tableIn (tgt := 761) (off := 729) hx hb dL_law_32 (by rw [z19]; decide) (by rw [z19]; decide) (by rw [z19]; rfl) (by decide) ?_
        exact lc_orderTold C0 hXs hbl hn hv s19 hB hX hI hl hc hs hk
      by_cases z20 : x = 20
      · refine lv_tableIn (tgt := 794) (off := 762) hx hb dL_law_32 (by rw [z20]; decide) (by rw [z20]; decide) (by rw [z20]; rfl) (by decide) ?_
        exact lc_alarms C0 hXs hbl hn hv s20 hB hX hI hl hc hs hk
      by_cases z21 : x = 21
      · refine lv_tableIn (tgt := 807) (off := 775) hx hb dL_law_32 (by rw [z21]; decide) (by rw [z21]; decide) (by rw [z21]; rfl) (by decide) ?_
        exact lc_told C0 hXs hbl hn hv s21 hB hX hI hl hc hs hk
      by_cases z22 : x = 22
      · refine lv_tableIn (tgt := 830) (off := 798) hx hb dL_law_32 (by rw [z22]; decide) (by rw [z22]; decide) (by rw [z22]; rfl) (by decide) ?_
        exact lc_entry C0 hXs hbl hn hv s22 hB hX hI hl hc hs hk
      by_cases z23 : x = 23
      · refine lv_tableIn (tgt := 863) (off := 831) hx hb dL_law_32 (by rw [z23]; decide) (by rw [z23]; decide) (by rw [z23]; rfl) (by decide) ?_
        exact lc_lose C0 hXs hbl hn hv s23 hB hX hI hl hc hs hk
      by_cases z24 : x = 24
      · refine lv_tableIn (tgt := 886) (off := 854) hx hb dL_law_32 (by rw [z24]; decide) (by rw [z24]; decide) (by rw [z24]; rfl) (by decide) ?_
        exact lc_repair C0 hXs hbl hn hv s24 hB hX hI hl hc hs hk
      by_cases z25 : x = 25
      · refine lv_tableIn (tgt := 899) (off := 867) hx hb dL_law_32 (by rw [z25]; decide) (by rw [z25]; decide) (by rw [z25]; rfl) (by decide) ?_
        exact lc_audit C0 hXs hbl hn hv s25 hB hX hI hl hc hs hk
      refine lv_tableOut (tgt := 912) hx hb dL_law_32 (tab_out 26 (by decide) (by decide) (fun k hk h => ?_)) (by decide) ?_
      · rcases (show k = 0 ∨ k = 1 ∨ k = 2 ∨ k = 3 ∨ k = 4 ∨ k = 5 ∨ k = 6 ∨ k = 7 ∨ k = 8 ∨ k = 9 ∨ k = 10 ∨ k = 11 ∨ k = 12 ∨ k = 13 ∨ k = 14 ∨ k = 15 ∨ k = 16 ∨ k = 17 ∨ k = 18 ∨ k = 19 ∨ k = 20 ∨ k = 21 ∨ k = 22 ∨ k = 23 ∨ k = 24 ∨ k = 25 by omega) with rfl | rfl | rfl | rfl | rfl | rfl | rfl | rfl | rfl | rfl | rfl | rfl | rfl | rfl | rfl | rfl | rfl | rfl | rfl | rfl | rfl | rfl | rfl | rfl | rfl | rfl
        · exact z0 h
        · exact z1 h
        · exact z2 h
        · exact z3 h
        · exact z4 h
        · exact z5 h
        · exact z6 h
        · exact z7 h
        · exact z8 h
        · exact z9 h
        · exact z10 h
        · exact z11 h
        · exact z12 h
        · exact z13 h
        · exact z14 h
        · exact z15 h
        · exact z16 h
        · exact z17 h
        · exact z18 h
        · exact z19 h
        · exact z20 h
        · exact z21 h
        · exact z22 h
        · exact z23 h
        · exact z24 h
        · exact z25 h
      · exact hk ad X S A G H locs ls cells slots hB hX (mono n S A G hI) hl (by omega) (by omega)
theorem XL1 : ∀ q ∈ LC, fk q.1 = 0 → ∀ k, k < fl q.1 → fr q.1 k ≠ 0 → (fr q.1 k, q.2) ∈ LC := by decide +kernel
theorem XL2 : ∀ f ∈ LR, fk f = 0 → ∀ k, k < fl f → fr f k ≠ 0 → fr f k ∈ LR := by decide +kernel
theorem XL3 : ∀ f, f < 60 → fk f = 3 → f = 1 ∨ f = 2 ∨ f = 3 ∨ f = 4 ∨ f = 10 := by decide +kernel
theorem XL4 : ∀ f, f < 60 → fk f ≠ 9 → 20 ≤ f → f ∈ LR := by decide +kernel
theorem XL5 : ∀ f, f ≤ 10 → (f, 0) ∈ LC := by decide +kernel
theorem XL6 : ∀ n, n < 2 → (11, n) ∈ LC := by decide +kernel
theorem XL7 : ∀ k, k < fl 15 → fr 15 k ≠ 0 → fr 15 k = 16 ∨ fr 15 k = 17 := by decide +kernel
theorem fk_hi {f : Nat} (h : 60 ≤ f) : fk f = 9 := by
  unfold fk
  rw [List.getD_eq_getElem?_getD, List.getElem?_eq_none (by simpa using h)]
  rfl
theorem G00_n {f i : Nat} (h3 : f ≠ 3) (h10 : f ≠ 10) : G00 f i = none := by
  show (if f = 3 ∧ i < 64 then some i else (if f = 10 ∧ i < 2 then some i else none)) = none
  rw [if_neg (fun z => h3 z.1), if_neg (fun z => h10 z.1)]
theorem X00_hi {f n : Nat} (h : X00 f n) : (f, n) ∈ LC ∨ ((f = 15 ∨ f = 16 ∨ f = 17) ∧ n < 64) ∨ (f ∈ LR ∧ n = 0) := by
  rcases h with (h | h) | h
  · exact Or.inl h
  · exact Or.inr (Or.inl h)
  · exact Or.inr (Or.inr h)
theorem X00_no {f n : Nat} (hf : f = 12 ∨ f = 13 ∨ f = 14) : ¬ X00 f n := fun h => by
  rcases X00_hi h with h | h | h
  · have e : ∀ q ∈ LC, ¬ (q.1 = 12 ∨ q.1 = 13 ∨ q.1 = 14) := by decide +kernel
    exact e _ h hf
  · omega
  · have := (LR_ok f h.1).1
    omega
theorem X00_un {f n : Nat} (hf : f = 1 ∨ f = 2 ∨ f = 4) (h : X00 f n) : n = 0 := by
  rcases X00_hi h with h | h | h
  · exact (LC_lo h).2 (by omega)
  · omega
  · exact h.2
theorem XI00 : XI X00 G00 := by
  have g3 : ∀ i, i < 64 → G00 3 i = some i := fun i h => if_pos ⟨rfl, h⟩
  have g10 : ∀ i, i < 2 → G00 10 i = some i := fun i h => show (if 10 = 3 ∧ i < 64 then some i else (if 10 = 10 ∧ i < 2 then some i else none)) = some i by rw [if_neg (fun z => absurd z.1 (by decide)), if_pos ⟨rfl, h⟩]
  refine ⟨⟨fun f h => Or.inl (Or.inl (XL5 f h)), fun n h => Or.inl (Or.inl (XL6 n h)), fun n h => ⟨Or.inl (Or.inr ⟨Or.inl rfl, h⟩), Or.inl (Or.inr ⟨Or.inr (Or.inl rfl), h⟩), Or.inl (Or.inr ⟨Or.inr (Or.inr rfl), h⟩)⟩, fun i n q => ?_, fun i n q => ?_, fun i n q => ?_, g3, g10⟩, fun f h => Or.inr ⟨?_, rfl⟩, ⟨fun f n k h a1 a2 a3 => ?_, fun f n i m h a1 a2 a3 => ?_⟩, fun n h => absurd h (X00_no (by omega)), fun n h => absurd h (X00_no (by omega)), fun n h => absurd h (X00_no (by omega)), fun n h => X00_un (by omega) h, fun n h => X00_un (by omega) h, fun n h => X00_un (by omega) h⟩
  · rw [G00_n (by decide) (by decide)] at q; cases q
  · rw [G00_n (by decide) (by decide)] at q; cases q
  · rw [G00_n (by decide) (by decide)] at q; cases q
  · by_cases hf : f < 60
    · exact XL4 f hf h.1 h.2
    · exact absurd (fk_hi (Nat.not_lt.mp hf)) h.1
  · rcases X00_hi h with h | h | h
    · exact Or.inl (Or.inl (XL1 _ h a1 k a2 a3))
    · obtain ⟨rfl | rfl | rfl, hn⟩ := h
      · exact Or.inl (Or.inr ⟨by rcases XL7 k a2 a3 with z | z <;> omega, hn⟩)
      · exact absurd a1 (by decide)
      · exact absurd a1 (by decide)
    · exact Or.inr ⟨XL2 f h.1 a1 k a2 a3, h.2⟩
  · have hf : f < 60 := Nat.not_le.mp fun z => by rw [fk_hi z] at a1; exact absurd a1 (by decide)
    rcases XL3 f hf a1 with rfl | rfl | rfl | rfl | rfl
    · rw [G00_n (by decide) (by decide)] at a3; cases a3
    · rw [G00_n (by decide) (by decide)] at a3; cases a3
    · have hi : i < 64 := a2
      rw [g3 i hi] at a3
      cases a3
      exact Or.inl (Or.inr ⟨Or.inl rfl, hi⟩)
    · rw [G00_n (by decide) (by decide)] at a3; cases a3
    · have hi : i < 2 := a2
      rw [g10 i hi] at a3
      cases a3
      exact Or.inl (Or.inl (XL6 i hi))
end LLOOP
/-- the whole law, over any invariant that holds at the start and that every call keeps -/
theorem law_all {p : Program} {l : Launch} {e : Env} {s : State} {m : MethodId} {below : List Frame} {meth : Method} {c : Code} {b L : Nat} {xs : Nat → Int32} {Inv : Nat → sS → sS → sG → Prop} (hL : L ≤ 2560) (C0 : lw_At p s m meth c b L xs) (h0 : Inv 0 S00 A00 G00) (mono : ∀ n S A G, Inv n S A G → Inv (n + 1) S A G) (s0 : st_user Inv) (s1 : st_item Inv) (s2 : st_login Inv) (s3 : st_logout Inv) (s4 : st_witness Inv) (s5 : st_tick Inv) (s6 : st_order Inv) (s7 : st_cancel Inv) (s8 : st_begin Inv) (s9 : st_count Inv) (s10 : st_amount Inv) (s11 : st_shut Inv) (s12 : st_giveBack Inv) (s13 : st_reconcile Inv) (s14 : st_mismatch Inv) (s15 : st_bin Inv) (s16 : st_lot Inv) (s17 : st_stock Inv) (s18 : st_wanted Inv) (s19 : st_orderTold Inv) (s20 : st_alarms Inv) (s21 : st_told Inv) (s22 : st_entry Inv) (s23 : st_lose Inv) (s24 : st_repair Inv) (s25 : st_audit Inv) : W p l e room_1 s m #[Value.ref b] below meth c s.heap [] 0 0 (lw_Z below #[Value.ref b] s) (entryFrame m ([Value.ref b] : List Value).toArray 4) := by
  obtain ⟨hx, hb, hr, hml, hown, hts, hXs, hbl, hlocks, hgv⟩ := id C0
  obtain ⟨D, aC, hK⟩ := law_K hts
  have hw : ∀ w ∈ wall, w.before #[Value.ref b] s = true := fun w h => hts w (List.mem_filter.mp h).1
  refine law_begin C0 hK (fun ad H locs ls hB hl => ?_)
  exact law_loop ⟨hx, hb, hml, hown, hw, hK, hr, hlocks⟩ hXs hbl hL mono s0 s1 s2 s3 s4 s5 s6 s7 s8 s9 s10 s11 s12 s13 s14 s15 s16 s17 s18 s19 s20 s21 s22 s23 s24 s25 513 0 (by decide) (by decide) ad X00 S00 A00 G00 H locs ls 230 8578 hB XI00 h0 hl (by decide) (by decide)
