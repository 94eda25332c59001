theorem readBooks20_S {G : sG} : ∀ (r : Nat) (S A : sS) (j : Nat), (O2_readBooks_20 G r S A j).1 = S := by
  intro r
  induction r with
  | zero => intro S A j; rfl
  | succ r ih =>
    intro S A j
    rw [O2_readBooks_20]
    (repeat' split) <;> first | rfl | exact ih _ _ _
theorem readBooks2_S {G : sG} : ∀ (r : Nat) (S A : sS) (j : Nat), (O2_readBooks_2 G r S A j).1 = S := by
  intro r
  induction r with
  | zero => intro S A j; rfl
  | succ r ih =>
    intro S A j
    rw [O2_readBooks_2]
    split
    · exact readBooks20_S _ _ _ _
    · exact ih _ _ _
theorem readBooks_S {S A : sS} {G : sG} : (O2_readBooks S A G).1 = S := readBooks2_S _ _ _ _

def O6_audit_28 (G : sG)  : Nat → sS → sS → Int32 → Nat → Int32 × sS × sS
  | 0, S, A, _, _ => (0, S, A)
  | r + 1, S, A, z1, j2 => if 64 ≤ nI j2 then (z1, S, A) else if A 8 0 j2 = V0_book S A G j2 then O6_audit_28 G  r S A z1 (j2 + 1) else O6_audit_28 G  r S A (z1 + 1) (j2 + 1)
def O6_audit_24 (S A : sS) (G : sG)  : Int32 × sS × sS := O6_audit_28 G  65 S A 0 0
def O6_audit (S A : sS) (G : sG)  : Int32 × sS × sS := if V2_wholeCopies S A G  = 0 then ((-8), S, A) else O6_audit_24 (O2_readBooks S A G ).1 (O2_readBooks S A G ).2 G 
set_option maxRecDepth 100000 in
set_option maxHeartbeats 4000000 in
theorem k6_audit_28 {p : Program} {l : Launch} {e : Env} {s : State} {m : MethodId} {args : Array Value} {below : List Frame} {meth : Method} {c : Code} {D : va_G} {aC : Nat → ClassId} {ad : Nat → Nat → Nat} {X : Nat → Nat → Prop} {G : sG} (C0 : s_C p s m args meth c b6_audit 3 R6 (some .int) D aC) (hX : xC X G)  : ∀ (r : Nat) {S A : sS} {H : Heap} {locs : List Loc} (hB : s_B D aC ad X (s_N ad X) S A G s.heap H locs) (z1 : Int32) (j2 : Nat) (hj : j2 ≤ 64) (hr3 : 64 < j2 + r) (hlo : ∀ i, i < 64 → 0 ≤ (S 15 i 3).toInt ∧ (S 15 i 3).toInt ≤ 6) {ls : Array Slot} (hl : lv_has ls 3 [(0, .ref (ad 0 0)), (1, .int z1), (2, .int (nI j2))]) {o : Int32 × sS × sS} (hO : O6_audit_28 G  r S A z1 j2 = o), W p l e (rmk 2) s m args below meth c H locs 0 0 (MQ below (s_Qi D aC ad X G o) args s 0 0 (s_N ad X)) (F0 m 28 ls []) := by
  obtain ⟨hx, hb, hml, hown, hw, hK, hr, hlocks⟩ := id C0
  intro r
  induction r with
  | zero =>
    intro S A H locs hB z1 j2 hj hr3 hlo ls hl o hO
    exact absurd hr3 (by omega)
  | succ r ih =>
    intro S A H locs hB z1 j2 hj hr3 hlo ls hl o hO
    rw [O6_audit_28] at hO
    refine lv_iload_n hx hb d6_audit_28 rfl (lv_at hl 2 rfl) ?_
    refine lv_bipush (v := 64) hx hb d6_audit_29 (by decide) ?_
    refine lv_icmp_ge (tgt := 61) hx hb d6_audit_31 (by decide) (fun c_1 => ?_) (fun c_1 => ?_)
    · refine lv_iload_n hx hb d6_audit_61 rfl (lv_at hl 1 rfl) ?_
      exact se_i C0 hB (by rw [if_pos c_1] at hO; exact hO) d6_audit_62
    · refine lv_aload_n hx hb d6_audit_34 rfl (lv_at hl 0 rfl) ?_
      refine sr_get (v := .ref (ad 8 0)) hx hb hw hown hK hB 7 (hX.1 0 (by decide)) cf_0 us6 (by decide) fl_6_51 (rfl) d6_audit_35 ?_
      refine lv_iload_n hx hb d6_audit_38 rfl (lv_at hl 2 rfl) ?_
      refine sr_iald (v := A 8 0 j2) hx hb hK hB (hX.1 8 (by decide)) rfl rfl (vp_in_nI (show j2 < 64 by (have aj2 := nI_toInt (n := j2) (by omega)); (have kc_1 := nle_i c_1); (have l64 : (64 : Int32).toInt = 64 := rfl);  omega) (by decide)) d6_audit_39 (s_cl (by omega)) ?_
      refine lv_aload_n hx hb d6_audit_40 rfl (lv_at hl 0 rfl) ?_
      refine sr_get (v := .ref (ad 3 0)) hx hb hw hown hK hB 2 (hX.1 0 (by decide)) cf_0 us6 (by decide) fl_6_23 (rfl) d6_audit_41 ?_
      refine lv_iload_n hx hb d6_audit_44 rfl (lv_at hl 2 rfl) ?_
      refine sr_aald (v := some j2) hx hb hK hB (hX.1 3 (by decide)) rfl rfl rfl (vp_in_nI (show j2 < 64 by (have aj2 := nI_toInt (n := j2) (by omega)); (have kc_1 := nle_i c_1); (have l64 : (64 : Int32).toInt = 64 := rfl);  omega) (by decide)) d6_audit_45 (by rw [nI_clamp (show j2 < 2 ^ 31 by omega)]; exact gb hX (show j2 < 64 by (have aj2 := nI_toInt (n := j2) (by omega)); (have kc_1 := nle_i c_1); (have l64 : (64 : Int32).toInt = 64 := rfl);  omega)) ?_
      refine sr_vp C0 hB (m0_book hX j2 (by (have aj2 := nI_toInt (n := j2) (by omega)); (have kc_1 := nle_i c_1); (have l64 : (64 : Int32).toInt = 64 := rfl);  omega) (hlo _ (by (have aj2 := nI_toInt (n := j2) (by omega)); (have kc_1 := nle_i c_1); (have l64 : (64 : Int32).toInt = 64 := rfl);  omega))) (hX.2.2.1 (j2) (show j2 < 64 by (have aj2 := nI_toInt (n := j2) (by omega)); (have kc_1 := nle_i c_1); (have l64 : (64 : Int32).toInt = 64 := rfl);  omega)).1 cf_15 ml_6_194 im_0_book se_0_book in_0 cd_0_book hd0_book ⟨⟨rfl, rfl⟩, by decide, by decide⟩ ⟨Nat.zero_le _, Nat.zero_le _⟩ hl.1 rfl (Nat.le_of_ble_eq_true rfl) d6_audit_46 ?_
      refine lv_icmp_eq (tgt := 55) hx hb d6_audit_49 (by decide) (fun c_2 => ?_) (fun c_2 => ?_)
      · refine lv_iinc (v := nI (j2 + 1)) (lv' := [(2, .int (nI (j2 + 1))), (0, .ref (ad 0 0)), (1, .int z1)]) hx hb d6_audit_55 hl (k := 2) rfl (nI_1 j2) (by decide) rfl (fun ls hl => ?_)
        refine lv_goto (tgt := 28) hx hb d6_audit_58 (by decide) ?_
        exact ih hB z1 (j2 + 1) (by (have aj2 := nI_toInt (n := j2) (by omega)); (have kc_1 := nle_i c_1); (have l64 : (64 : Int32).toInt = 64 := rfl);  omega) (by (have aj2 := nI_toInt (n := j2) (by omega)); (have kc_1 := nle_i c_1); (have l64 : (64 : Int32).toInt = 64 := rfl);  omega) (by (have aj2 := nI_toInt (n := j2) (by omega)); (have kc_1 := nle_i c_1); (have l64 : (64 : Int32).toInt = 64 := rfl);  exact hlo) (lv_sub hl [1, 2, 0] rfl) (by rw [if_neg c_1, if_pos c_2] at hO; exact hO)
      · refine lv_iinc (v := z1 + 1) (lv' := [(1, .int (z1 + 1)), (0, .ref (ad 0 0)), (2, .int (nI j2))]) hx hb d6_audit_52 hl (k := 1) rfl (rfl) (by decide) rfl (fun ls hl => ?_)
        refine lv_iinc (v := nI (j2 + 1)) (lv' := [(2, .int (nI (j2 + 1))), (1, .int (z1 + 1)), (0, .ref (ad 0 0))]) hx hb d6_audit_55 hl (k := 2) rfl (nI_1 j2) (by decide) rfl (fun ls hl => ?_)
        refine lv_goto (tgt := 28) hx hb d6_audit_58 (by decide) ?_
        exact ih hB (z1 + 1) (j2 + 1) (by (have aj2 := nI_toInt (n := j2) (by omega)); (have kc_1 := nle_i c_1); (have l64 : (64 : Int32).toInt = 64 := rfl);  omega) (by (have aj2 := nI_toInt (n := j2) (by omega)); (have kc_1 := nle_i c_1); (have l64 : (64 : Int32).toInt = 64 := rfl);  omega) (by (have aj2 := nI_toInt (n := j2) (by omega)); (have kc_1 := nle_i c_1); (have l64 : (64 : Int32).toInt = 64 := rfl);  exact hlo) (lv_sub hl [2, 1, 0] rfl) (by rw [if_neg c_1, if_neg c_2] at hO; exact hO)
set_option maxRecDepth 100000 in
set_option maxHeartbeats 4000000 in
theorem k6_audit_24 {p : Program} {l : Launch} {e : Env} {s : State} {m : MethodId} {args : Array Value} {below : List Frame} {meth : Method} {c : Code} {D : va_G} {aC : Nat → ClassId} {ad : Nat → Nat → Nat} {X : Nat → Nat → Prop} {S A : sS} {G : sG} {H : Heap} {locs : List Loc} (C0 : s_C p s m args meth c b6_audit 3 R6 (some .int) D aC) (hB : s_B D aC ad X (s_N ad X) S A G s.heap H locs) (hX : xC X G)  (hlo : ∀ i, i < 64 → 0 ≤ (S 15 i 3).toInt ∧ (S 15 i 3).toInt ≤ 6) {ls : Array Slot} (hl : lv_has ls 3 [(0, .ref (ad 0 0))]) {o : Int32 × sS × sS} (hO : O6_audit_24 S A G  = o) : W p l e (rmk 2) s m args below meth c H locs 0 0 (MQ below (s_Qi D aC ad X G o) args s 0 0 (s_N ad X)) (F0 m 24 ls []) := by
  obtain ⟨hx, hb, hml, hown, hw, hK, hr, hlocks⟩ := id C0
  unfold O6_audit_24 at hO
  refine lv_iconst (v := 0) hx hb d6_audit_24 (by decide) ?_
  refine lv_istore_n (lv' := [(1, .int 0), (0, .ref (ad 0 0))]) hx hb d6_audit_25 rfl hl (by decide) rfl (fun ls hl => ?_)
  refine lv_iconst (v := 0) hx hb d6_audit_26 (by decide) ?_
  refine lv_istore_n (lv' := [(2, .int 0), (1, .int 0), (0, .ref (ad 0 0))]) hx hb d6_audit_27 rfl hl (by decide) rfl (fun ls hl => ?_)
  exact k6_audit_28 C0 hX  65 hB 0 0 (by  omega) (by  omega) (by  exact hlo) (lv_sub hl [2, 1, 0] rfl) (hO)
set_option maxRecDepth 100000 in
set_option maxHeartbeats 4000000 in
theorem k6_audit_0 {p : Program} {l : Launch} {e : Env} {s : State} {m : MethodId} {args : Array Value} {below : List Frame} {meth : Method} {c : Code} {D : va_G} {aC : Nat → ClassId} {ad : Nat → Nat → Nat} {X : Nat → Nat → Prop} {S A : sS} {G : sG} {H : Heap} {locs : List Loc} (C0 : s_C p s m args meth c b6_audit 3 R6 (some .int) D aC) (hB : s_B D aC ad X (s_N ad X) S A G s.heap H locs) (hX : xC X G)  (hlo : ∀ i, i < 64 → 0 ≤ (S 15 i 3).toInt ∧ (S 15 i 3).toInt ≤ 6) (hsz : 0 ≤ (S 6 0 1).toInt ∧ (S 6 0 1).toInt ≤ 300) {ls : Array Slot} (hl : lv_has ls 3 [(0, .ref (ad 0 0))]) {o : Int32 × sS × sS} (hO : O6_audit S A G  = o) : W p l e (rmk 2) s m args below meth c H locs 0 0 (MQ below (s_Qi D aC ad X G o) args s 0 0 (s_N ad X)) (F0 m 0 ls []) := by
  obtain ⟨hx, hb, hml, hown, hw, hK, hr, hlocks⟩ := id C0
  unfold O6_audit at hO
  refine lv_aload_n hx hb d6_audit_0 rfl (lv_at hl 0 rfl) ?_
  refine sr_get (v := .ref (ad 6 0)) hx hb hw hown hK hB 5 (hX.1 0 (by decide)) cf_0 us6 (by decide) fl_6_43 (rfl) d6_audit_1 ?_
  refine sr_vp C0 hB (m2_wholeCopies hX  ) (hX.1 6 (by decide)) cf_6 ml_6_251 im_2_wholeCopies se_2_wholeCopies in_2 cd_2_wholeCopies hd2_wholeCopies ⟨⟨rfl, rfl⟩, by decide, by decide⟩ ⟨Nat.zero_le _, Nat.zero_le _⟩ hl.1 rfl (Nat.le_of_ble_eq_true rfl) d6_audit_4 ?_
  refine lv_if_ne (tgt := 13) hx hb d6_audit_7 (by decide) (fun c_1 => ?_) (fun c_1 => ?_)
  · refine lv_aload_n hx hb d6_audit_13 rfl (lv_at hl 0 rfl) ?_
    refine sr_get (v := .ref (ad 6 0)) hx hb hw hown hK hB 5 (hX.1 0 (by decide)) cf_0 us6 (by decide) fl_6_43 (rfl) d6_audit_14 ?_
    refine lv_aload_n hx hb d6_audit_17 rfl (lv_at hl 0 rfl) ?_
    refine sr_get (v := .ref (ad 8 0)) hx hb hw hown hK hB 7 (hX.1 0 (by decide)) cf_0 us6 (by decide) fl_6_51 (rfl) d6_audit_18 ?_
    refine sr_vv C0 hB (m2_readBooks hX  (by  first | assumption | omega)) (hX.1 6 (by decide)) cf_6 ml_6_268 im_2_readBooks se_2_readBooks in_2 cd_2_readBooks hd2_readBooks ⟨⟨rfl, rfl⟩, by decide, by decide⟩ ⟨Nat.zero_le _, Nat.zero_le _⟩ hl.1 rfl (Nat.le_of_ble_eq_true rfl) d6_audit_21 (fun H locs hB => ?_)
    exact k6_audit_24 C0 hB hX  (by rw [readBooks_S]; exact hlo) (lv_sub hl [0] rfl) (by rw [if_neg c_1] at hO; exact hO)
  · refine lv_bipush (v := (-8)) hx hb d6_audit_10 (by decide) ?_
    exact se_i C0 hB (by rw [if_pos c_1] at hO; exact hO) d6_audit_12
theorem hd6_audit : y6_audit.cls = R6 ∧ y6_audit.cls ≠ "java/lang/invoke/MethodHandle" ∧ y6_audit.cls ≠ "java/lang/invoke/VarHandle" ∧ (parseMethodDescriptor y6_audit.desc).map (fun d => d.parameters.length) = some 0 := ⟨rfl, by decide, by decide, by decide +kernel⟩
theorem m6_audit {l : Launch} {D : va_G} {aC : Nat → ClassId} {ad : Nat → Nat → Nat} {X : Nat → Nat → Prop} {S A : sS} {G : sG} (hX : xC X G)  (hlo : ∀ i, i < 64 → 0 ≤ (S 15 i 3).toInt ∧ (S 15 i 3).toInt ≤ 6) (hsz : 0 ≤ (S 6 0 1).toInt ∧ (S 6 0 1).toInt ≤ 300) : Met l y6_audit (.code y6_audit b6_audit 3 (some .int) :: wall) (rmk 2) (s_Pc [.ref (ad 0 0)] D aC ad X S A G) (s_Qi D aC ad X G (O6_audit S A G )) 0 0 (s_N ad X) :=
  s_met (by decide) rfl (Nat.le_of_ble_eq_true rfl) (fun p e s m args below meth c C0 hB ls hl => k6_audit_0 C0 hB hX  hlo hsz hl rfl)

/-! methods that make an object -/
theorem wall_in0 {c1 : Cond} (h : c1 ∈ wall) : GoodIn wall (c1 :: wall) := fun w hw => by
  rcases List.mem_cons.mp hw with rfl | hw
  · exact ⟨h, wall_good _ h⟩
  · exact ⟨hw, wall_good _ hw⟩
def upO (S : sS) (f n : Nat) (vs : List Int32) : sS := fun f1 n1 k => if f1 = f ∧ n1 = n then vs.getD k 0 else S f1 n1 k
theorem upO_s {S : sS} {f n k : Nat} {vs : List Int32} : upO S f n vs f n k = vs.getD k 0 := if_pos ⟨rfl, rfl⟩
theorem upO_n {S : sS} {f n f1 n1 k : Nat} {vs : List Int32} (h : ¬ (f1 = f ∧ n1 = n)) : upO S f n vs f1 n1 k = S f1 n1 k := if_neg h
def aX (X : Nat → Nat → Prop) (fm : Nat) (u : Option Nat) : Nat → Nat → Prop := match u with
  | none => X
  | some n => Xx X fm n
def aG (G : sG) (ar : Nat) (u : Option Nat) : sG := match u with
  | none => G
  | some n => up2 G ar n (some n)
def a_Pc (av : List Value) (D : va_G) (aC : Nat → ClassId) (ad : Nat → Nat → Nat) (X : Nat → Nat → Prop) (S A : sS) (G : sG) (sz : Nat) : Array Value → State → Prop := va_Pc av (fun U => U.heap.size = sz ∧ s_J ad X ∧ s_P D aC ad X S A G U.heap ∧ va_K D cls (tyl aC) U)
def a_Z (ad : Nat → Nat → Nat) (X : Nat → Nat → Prop) (sz : Nat) : Nat → Prop := fun q => s_N ad X q ∨ sz ≤ q
def a_Q (D : va_G) (aC : Nat → ClassId) (ad : Nat → Nat → Nat) (X : Nat → Nat → Prop) (G : sG) (fm ar : Nat) (o : Int32 × sS × sS × Option Nat) (sz : Nat) : Array Value → State → Outcome → State → Prop := fun _ st oc t => oc = .returned (some (.int o.1)) ∧ (∃ ad1 : Nat → Nat → Nat, s_J ad1 (aX X fm o.2.2.2) ∧ s_P D aC ad1 (aX X fm o.2.2.2) o.2.1 o.2.2.1 (aG G ar o.2.2.2) t.heap ∧ (∀ f n, X f n → ad1 f n = ad f n) ∧ (∀ f n, aX X fm o.2.2.2 f n → a_Z ad X sz (ad1 f n))) ∧ va_F (a_Z ad X sz) st t
theorem a_met {l : Launch} {y : MethodName} {b : ByteArray} {n : Nat} {ret : Option FieldType} {rm : Room} {av : List Value} {D : va_G} {aC : Nat → ClassId} {ad : Nat → Nat → Nat} {X : Nat → Nat → Prop} {S A : sS} {G : sG} {sz mc ms : Nat} {Qc : Array Value → State → Outcome → State → Prop} {own : String} (hy : plainName y.cls = true) (ho : y.cls = own) (hn : (lg_sl av).length ≤ n)
    (body : ∀ (p : Program) (e : Env) (s : State) (m : MethodId) (args : Array Value) (below : List Frame) (meth : Method) (c : Code), s.heap.size = sz → s_C p s m args meth c b n own ret D aC → s_B D aC ad X (a_Z ad X sz) S A G s.heap s.heap [] → ∀ ls : Array Slot, lv_has ls n (lv_args 0 av) → W p l e rm s m args below meth c s.heap [] 0 0 (MQ below Qc args s mc ms (a_Z ad X sz)) (F0 m 0 ls [])) : Met l y (.code y b n ret :: wall) rm (a_Pc av D aC ad X S A G sz) Qc mc ms (a_Z ad X sz) := by
  refine Met.ofW (cc := b) (maxL := n) (ret := ret) hy rfl ?_
  intro p e s m args below meth c s₁ B hml hv
  obtain ⟨rfl, hsz, hJ, hP, hK⟩ := hv
  have hw : ∀ w ∈ wall, w.before av.toArray s = true := fun w h => atoms_spec (ws := .code y b n ret :: wall) B.pre w (List.mem_cons_of_mem _ h)
  have hown : s.vm.findClass own = some m.cls := by rw [← ho]; exact findClass_of_methodNamed B.named
  have hl := lv_entry av (n := n) hn
  rw [lg_entry_eq]
  exact body p e s m _ below meth c hsz ⟨B.exec, B.bytes, hml, hown, hw, hK, B.returns, B.notSynchronized⟩ ⟨hJ, hP, va_S.rf, fun f n h => Or.inl ⟨f, n, h, rfl⟩⟩ _ hl
theorem c_cell {D : va_G} {aC : Nat → ClassId} {ad : Nat → Nat → Nat} {S1 A1 : sS} {G1 : sG} {H : Heap} {a f0 n0 ci N : Nat} {fs : List Value} {C : String} {T : u_T} (h : va_at D cls (a, .inr (ci, fs)) H) (hf : fk f0 = 0 ∧ fc f0 = ci ∧ cls[ci]? = some (C, T, N) ∧ fl f0 = N) (ha : ad f0 n0 = a) (hv : ∀ k, k < N → vp_V fs k = s_fv ad S1 f0 n0 k) : s_at D aC ad S1 A1 G1 f0 n0 H := by
  obtain ⟨h0, h1, h2, h3⟩ := hf
  obtain ⟨r, hr, ht⟩ := h
  have er : r = (C, T, N) := Option.some.inj (hr.symm.trans h2)
  subst er
  unfold s_at
  rw [if_pos h0, h1, h3, ha]
  exact ht.to hv
section SAST
variable {p : Program} {l : Launch} {e : Env} {R : Room} {s : State} {m : MethodId} {args : Array Value} {below : List Frame} {meth : Method} {c : Code} {H : Heap} {locs : List Loc} {cells slots : Nat} {Q : State → Prop}
variable {cc : ByteArray} {nL : Nat} {own : String} {pc : Nat} {ls : Array Slot} {rest : List Value} {D : va_G} {aC : Nat → ClassId} {ad : Nat → Nat → Nat} {X : Nat → Nat → Prop} {Z : Nat → Prop} {S A : sS} {G : sG} {H0 : Heap}
theorem sr_aast (hexec : p.tables.exec = Jvm.exec) (hb : c.code = cc) (hK : va_K D cls (tyl aC) s) (hB : s_B D aC ad X Z S A G H0 H locs) {f n u a v : Nat} {C : String} {T : u_T} {N : Nat} (hX : X f n) (hf : fk f = 3) (ht : (tyl aC)[fc f]? = some (aC (fc f), .object C)) (hXu : X (fe f) u) (hfu : fk (fe f) = 0 ∧ cls[fc (fe f)]? = some (C, T, N) ∧ fl (fe f) = N) (hun : ∀ n1, X f n1 → n1 = n) {i : Int32} (hi : vp_in i (fl f)) (ha : a = ad f n) (hv : v = ad (fe f) u) (hdg : decode cc pc = .ok (.aastore, 1))
    (kk : ∀ (H1 : Heap) (locs1 : List Loc), s_B D aC ad X Z S A (up2 G f i.toNatClampNeg (some u)) H0 H1 locs1 → W p l e R s m args below meth c H1 locs1 cells slots Q (F0 m (pc + 1) ls rest)) : W p l e R s m args below meth c H locs cells slots Q (F0 m pc ls (.ref v :: .int i :: .ref a :: rest)) := by
  subst ha hv
  have hlt : i.toNatClampNeg < fl f := Nat.not_le.mp fun q => hi (Or.inr q)
  have h0 : ¬ i < 0 := fun q => hi (Or.inl q)
  have hc := s_arr hB hX (by rw [hf]; decide)
  obtain ⟨hJ, hP, hS, hZ⟩ := hB
  have hu := hP (fe f) u hXu
  unfold s_at at hu
  rw [if_pos hfu.1] at hu
  obtain ⟨cellV, g1, g2, g3, -⟩ := hu
  have hcls := (hK.1 (fc (fe f)) _ hfu.2.1).2
  obtain ⟨kA, comp, k1, k2, k3, -⟩ := (hK.2 (fc f) _ ht).2
  have hcomp : comp = D.1 (fc (fe f)) := Option.some.inj (k3.symm.trans hcls.1)
  subst hcomp
  obtain ⟨kC, hkC, -⟩ := hcls.2
  refine W.aast hexec hb hc (fun q h => by cases h) (fun h => by cases h) k1 k2 rfl hkC ⟨h0, by rw [arrV_size]; exact hlt⟩ g1 (fun q h => by rw [g3] at h; cases h) (by rw [g2]; exact hkC) (by rw [g2]; exact va_assign hcls) rfl rfl hdg fun H1 e1 z oq => ?_
  refine kk H1 _ ⟨hJ, fun f1 n1 hX1 => ?_, hS.put z oq (hZ f n hX), hZ⟩
  by_cases hfn : f1 = f
  · subst hfn
    have en := hun n1 hX1
    subst en
    unfold s_at
    rw [if_neg (by rw [hf]; decide), e1, arrV_store]
    refine congrArg some (congrArg (arrV _ _) (funext fun j => ?_))
    show (if j = i.toNatClampNeg then Value.ref (ad (fe f1) u) else s_av ad A G f1 n1 j) = s_av ad A (up2 G f1 i.toNatClampNeg (some u)) f1 n1 j
    by_cases hj : j = i.toNatClampNeg
    · subst hj
      rw [if_pos rfl]
      unfold s_av
      rw [if_pos hf, up2_s]
      rfl
    · rw [if_neg hj]
      unfold s_av
      rw [if_pos hf, if_pos hf, up2_n (fun q => hj q.2)]
  · have hne : ad f1 n1 ≠ ad f n := fun q => hfn (hJ _ _ _ _ hX1 hX q).1
    refine ((hP f1 n1 hX1).kept (oq _ hne)).to rfl (fun _ k _ => rfl) (fun _ j _ => ?_)
    unfold s_av
    rw [up2_n (fun q => hfn q.1)]
theorem se_a0 {fm ar mc ms sz : Nat} (C0 : s_C p s m args meth c cc nL own (some .int) D aC) (hB : s_B D aC ad X (a_Z ad X sz) S A G s.heap s.heap []) {v : Int32} {o : Int32 × sS × sS × Option Nat} (hv : (v, S, A, none) = o) (hdg : decode cc pc = .ok (.ireturn, 1)) : W p l e R s m args below meth c s.heap [] 0 0 (MQ below (a_Q D aC ad X G fm ar o sz) args s mc ms (a_Z ad X sz)) (F0 m pc ls [.int v]) := by
  subst hv
  obtain ⟨hx, hb, -, -, -, -, hr, hlocks⟩ := C0
  refine W.widen (k := mc) (n := ms) (Nat.zero_le _) (Nat.zero_le _) ?_
  exact W.iret hx hb hr (fun t ht hW => ⟨rfl, ⟨ad, hB.1, by rw [ht]; exact hB.2.1, fun _ _ _ => rfl, hB.2.2.2⟩, hB.2.2.1.F ht⟩) hB.2.2.1.2.2 hdg hlocks
theorem se_a1 {fm ar mc ms sz n : Nat} {X0 : Nat → Nat → Prop} {ad0 : Nat → Nat → Nat} {G0 : sG} (C0 : s_C p s m args meth c cc nL own (some .int) D aC) (hX1 : X = Xx X0 fm n) (hG1 : G = up2 G0 ar n (some n)) (hag : ∀ f n, X0 f n → ad f n = ad0 f n) (hB : s_B D aC ad X (a_Z ad0 X0 sz) S A G s.heap H locs) {v : Int32} {o : Int32 × sS × sS × Option Nat} (hv : (v, S, A, some n) = o) (hdg : decode cc pc = .ok (.ireturn, 1)) : W p l e R s m args below meth c H locs mc ms (MQ below (a_Q D aC ad0 X0 G0 fm ar o sz) args s mc ms (a_Z ad0 X0 sz)) (F0 m pc ls [.int v]) := by
  subst hv hX1 hG1
  obtain ⟨hx, hb, -, -, -, -, hr, hlocks⟩ := C0
  exact W.iret hx hb hr (fun t ht hW => ⟨rfl, ⟨ad, hB.1, by rw [ht]; exact hB.2.1, hag, hB.2.2.2⟩, hB.2.2.1.F ht⟩) hB.2.2.1.2.2 hdg hlocks
end SAST
