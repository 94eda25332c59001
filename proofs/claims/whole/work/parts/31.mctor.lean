/-! the reference's constructor -/
def xL (l : List Nat) : Nat → Nat → Prop := fun f n => f ∈ l ∧ n = 0
theorem xL_c {l : List Nat} {f : Nat} : Xx (xL l) f 0 = xL (f :: l) := by
  funext f1 n1
  apply propext
  constructor
  · intro h
    rcases h with h | ⟨rfl, rfl⟩
    · exact ⟨List.mem_cons_of_mem _ h.1, h.2⟩
    · exact ⟨List.mem_cons_self, rfl⟩
  · intro h
    obtain ⟨h1, h2⟩ := h
    rcases List.mem_cons.mp h1 with e | e
    · exact Or.inr ⟨e, h2⟩
    · exact Or.inl ⟨e, h2⟩
theorem xL_0 : (fun _ _ => False : Nat → Nat → Prop) = xL [] := by
  funext f n
  apply propext
  constructor
  · intro h; exact h.elim
  · intro h; exact absurd h.1 List.not_mem_nil
theorem c_arr {D : va_G} {aC : Nat → ClassId} {ad : Nat → Nat → Nat} {S1 A1 : sS} {G1 : sG} {H : Heap} {a f0 n0 t N : Nat} {g : Nat → Int32} (h : va_at D cls (a, .inl (aC t, N, .inl g)) H) (hf : (fk f0 = 1 ∨ fk f0 = 2) ∧ fc f0 = t ∧ fl f0 = N) (ha : ad f0 n0 = a) (hv : ∀ i, i < N → g i = A1 f0 n0 i) : s_at D aC ad S1 A1 G1 f0 n0 H := by
  obtain ⟨h0, h1, h2⟩ := hf
  subst h1 h2
  have h9 : H[a]? = some (vp_cell (aC (fc f0)) (fl f0, .inl g)) := h
  unfold s_at
  rw [if_neg (by rcases h0 with q | q <;> rw [q] <;> decide), ha, h9, vp_cell_i]
  refine congrArg some (arrV_ext (fun i hi => ?_))
  unfold s_av
  rw [if_neg (by rcases h0 with q | q <;> rw [q] <;> decide), hv i hi]
theorem c_arq {D : va_G} {aC : Nat → ClassId} {ad : Nat → Nat → Nat} {S1 A1 : sS} {G1 : sG} {H : Heap} {a f0 n0 t N : Nat} {g : Nat → Option Nat} (h : va_at D cls (a, .inl (aC t, N, .inr (.inr (.inr (.inr g))))) H) (hf : fk f0 = 3 ∧ fc f0 = t ∧ fl f0 = N) (ha : ad f0 n0 = a) (hv : ∀ i, i < N → g i = (G1 f0 i).map (ad (fe f0))) : s_at D aC ad S1 A1 G1 f0 n0 H := by
  obtain ⟨h0, h1, h2⟩ := hf
  subst h1 h2
  have h9 : H[a]? = some (vp_cell (aC (fc f0)) (fl f0, .inr (.inr (.inr (.inr g))))) := h
  unfold s_at
  rw [if_neg (by rw [h0]; decide), ha, h9, vp_cell_q]
  refine congrArg some (arrV_ext (fun i hi => ?_))
  unfold s_av
  rw [if_pos h0, hv i hi]
def k_Q (D : va_G) (aC : Nat → ClassId) (X : Nat → Nat → Prop) (P : sS → sS → sG → Prop) (f0 h0 sz : Nat) : Array Value → State → Outcome → State → Prop := fun _ st oc t => oc = .returned none ∧ (∃ (ad : Nat → Nat → Nat) (S A : sS) (G : sG), s_J ad X ∧ s_P D aC ad X S A G t.heap ∧ P S A G ∧ ad f0 0 = h0 ∧ (∀ f n, X f n → ad f n = h0 ∨ sz ≤ ad f n)) ∧ va_F (fun q => q = h0 ∨ sz ≤ q) st t
theorem adx_k {ad : Nat → Nat → Nat} {f0 n0 a f n : Nat} (h : ¬ (f = f0 ∧ n = n0)) : adx ad f0 n0 a f n = ad f n := if_neg h
theorem fr20 : ∀ k, k < 39 → fr 20 k ≠ 0 → fr 20 k ∈ [59, 57, 56, 47, 46, 45, 44, 43, 42, 40, 39, 38, 37, 36, 35, 34, 33, 32, 31, 26, 25, 24, 23, 22] := by decide +kernel
def LR : List Nat := [20, 59, 57, 56, 47, 46, 45, 44, 43, 42, 40, 39, 38, 37, 36, 35, 34, 33, 32, 31, 26, 25, 24, 23, 22]
def SR0 : sS := upO (fun _ _ _ => 0) 20 0 [0, 0, 0, 0, 0, 0, -1, 0, -1, 0, 0, 0, 0, 0, 0, 0, 0, 0, 0, 0, 0, 0, 0, 0, 0, 0, 0, -1, 0, 0, 0, 0, 0, 0, 0, 0, 0, 0, 0]
set_option maxRecDepth 100000 in
set_option maxHeartbeats 4000000 in
theorem k7_init_215 {p : Program} {l : Launch} {e : Env} {s : State} {m : MethodId} {args : Array Value} {below : List Frame} {meth : Method} {c : Code} {D : va_G} {aC : Nat → ClassId} {ad : Nat → Nat → Nat} {R : Room} {h0 : Nat} (hx : p.tables.exec = Jvm.exec) (hb : c.code = b7_init) (hr : meth.sig.returnType = none) (hw : ∀ w ∈ wall, w.before args s = true) (hown : s.vm.findClass R7 = some m.cls) (hK : va_K D cls (tyl aC) s) (hlocks : meth.locks = false) (h20 : ad 20 0 = h0) : ∀ (r j : Nat), j ≤ 64 → 64 < j + r → ∀ {A : sS} {H : Heap} {locs : List Loc}, s_B D aC ad (xL LR) (fun q => q = h0 ∨ s.heap.size ≤ q) SR0 A (fun _ _ => none) s.heap H locs → (∀ f n i, A f n i = if f = 35 ∧ n = 0 ∧ i < j then -1 else 0) → ∀ {ls : Array Slot}, lv_has ls 2 [(0, .ref (ad 20 0)), (1, .int (nI j))] → W p l e R s m args below meth c H locs 24 3458 (MQ below (k_Q D aC (xL LR) (fun S A G => S = SR0 ∧ (∀ f n i, A f n i = if f = 35 ∧ n = 0 ∧ i < 64 then -1 else 0) ∧ G = fun _ _ => none) 20 h0 s.heap.size) args s 24 3458 (fun q => q = h0 ∨ s.heap.size ≤ q)) (F0 m 215 ls []) := by
  intro r
  induction r with
  | zero => intro j h1 h2; exact absurd h2 (by omega)
  | succ r ih =>
    intro j h1 h2 A H locs hB hA ls hl
    have aj := nI_toInt (n := j) (by omega)
    have l64 : (64 : Int32).toInt = 64 := rfl
    refine lv_iload_n hx hb d7_init_215 rfl (lv_at hl 1 rfl) ?_
    refine lv_bipush (v := 64) hx hb d7_init_216 (by decide) ?_
    refine lv_icmp_ge (tgt := 234) hx hb d7_init_218 (by decide) (fun c_1 => ?_) (fun c_1 => ?_)
    · have k1 := le_i c_1
      have ej : j = 64 := by omega
      subst ej
      exact W.vret hx hb hr (fun t ht hW => ⟨rfl, ⟨ad, SR0, A, _, hB.1, by rw [ht]; exact hB.2.1, ⟨rfl, hA, rfl⟩, h20, hB.2.2.2⟩, hB.2.2.1.F ht⟩) hB.2.2.1.2.2 d7_init_234 hlocks
    · have k1 := nle_i c_1
      refine lv_aload_n hx hb d7_init_221 rfl (lv_at hl 0 rfl) ?_
      refine sr_get (v := .ref (ad 35 0)) hx hb hw hown hK hB 14 ⟨by decide, rfl⟩ cf_20 us7 (by decide) fl_7_45 rfl d7_init_222 ?_
      refine lv_iload_n hx hb d7_init_225 rfl (lv_at hl 1 rfl) ?_
      refine lv_iconst (v := (-1)) hx hb d7_init_226 (by decide) ?_
      refine sr_iast hx hb hK hB ⟨by decide, rfl⟩ rfl rfl (vp_in_nI (show j < 64 by omega) (by decide)) d7_init_227 (fun H locs hB => ?_)
      rw [nI_clamp (show j < 2 ^ 31 by omega)] at hB
      refine lv_iinc (v := nI (j + 1)) (lv' := [(1, .int (nI (j + 1))), (0, .ref (ad 20 0))]) hx hb d7_init_228 hl (k := 1) rfl (nI_1 j) (by decide) rfl (fun ls hl => ?_)
      refine lv_goto (tgt := 215) hx hb d7_init_231 (by decide) ?_
      refine ih (j + 1) (by omega) (by omega) hB (fun f n i => ?_) (lv_sub hl [1, 0] rfl)
      by_cases q : f = 35 ∧ i = j ∧ n = 0
      · obtain ⟨rfl, rfl, rfl⟩ := q
        rw [up3_s, if_pos ⟨rfl, rfl, by omega⟩]
      · rw [up3_n q, hA]
        by_cases z : f = 35 ∧ n = 0 ∧ i < j
        · rw [if_pos z, if_pos ⟨z.1, z.2.1, by omega⟩]
        · rw [if_neg z, if_neg (fun y => by have : ¬ i = j := fun e => q ⟨y.1, e, y.2.1⟩; exact z ⟨y.1, y.2.1, by omega⟩)]
set_option maxRecDepth 100000 in
set_option maxHeartbeats 8000000 in
theorem m7_init {l : Launch} {D : va_G} {aC : Nat → ClassId} (h0 sz : Nat) : Met l y7_init (.code y7_init b7_init 2 none :: wall) { frames := 1, cells := 24, slots := 3458, locals := 40 } (c_Pc D aC [.ref h0] h0 (.inr (7, [.int 0, .null, .null, .null, .null, .null, .int 0, .int 0, .int 0, .int 0, .null, .null, .null, .null, .null, .null, .null, .null, .null, .null, .int 0, .null, .null, .null, .null, .null, .null, .int 0, .int 0, .int 0, .int 0, .int 0, .int 0, .int 0, .int 0, .null, .null, .int 0, .null])) sz (fun _ => True)) (k_Q D aC (xL LR) (fun S A G => S = SR0 ∧ (∀ f n i, A f n i = if f = 35 ∧ n = 0 ∧ i < 64 then -1 else 0) ∧ G = fun _ _ => none) 20 h0 sz) 24 3458 (fun q => q = h0 ∨ sz ≤ q) := by
  refine Met.ofW (cc := b7_init) (maxL := 2) (ret := none) (by decide) rfl ?_
  intro p e s m args below meth c s₁ B hml hv
  obtain ⟨rfl, rfl, hat, hK, -⟩ := hv
  have hx := B.exec
  have hb := B.bytes
  have hr := B.returns
  have hlocks := B.notSynchronized
  have hw : ∀ w ∈ wall, w.before _ s = true := fun w h => atoms_spec (ws := .code y7_init b7_init 2 none :: wall) B.pre w (List.mem_cons_of_mem _ h)
  have hown : s.vm.findClass R7 = some m.cls := findClass_of_methodNamed B.named
  have hin : meth.name = "<init>" := (name_of_methodNamed B.named B.method).1
  have hC := c_start (D := D) (aC := aC) hat
  have hZn : ∀ q, s.heap.size ≤ q → (fun q => q = h0 ∨ s.heap.size ≤ q) q := fun q h => Or.inr h
  have hl := lv_entry [.ref h0] (n := 2) (Nat.le_of_ble_eq_true rfl)
  rw [lg_entry_eq]
  generalize (lg_sl [.ref h0] ++ List.replicate (2 - (lg_sl [.ref h0]).length) Slot.unset).toArray = ls at hl ⊢
  have hl : lv_has ls 2 [(0, .ref h0)] := hl
  have hC : c_B D aC (fun _ _ => 0) (xL []) (fun q => q = h0 ∨ s.heap.size ≤ q) (fun _ _ _ => 0) (fun _ _ _ => 0) (fun _ _ => none) [(h0, .inr (7, [.int 0, .null, .null, .null, .null, .null, .int 0, .int 0, .int 0, .int 0, .null, .null, .null, .null, .null, .null, .null, .null, .null, .null, .int 0, .null, .null, .null, .null, .null, .null, .int 0, .int 0, .int 0, .int 0, .int 0, .int 0, .int 0, .int 0, .null, .null, .int 0, .null]))] s.heap s.heap [] := by rw [← xL_0]; exact hC
  obtain ⟨ad0, had0⟩ : ∃ z : Nat → Nat → Nat, z = fun _ _ => 0 := ⟨_, rfl⟩
  rw [← had0] at hC
  refine lv_aload_n hx hb d7_init_0 rfl (lv_at hl 0 rfl) ?_
  refine W.objInit hx hb hown (hw _ ml_7_1) (hw _ im_O_init) (hw _ cd_O_init) rfl (by rw [hml]; exact hl.1) rfl d7_init_1 (Nat.le_of_ble_eq_true rfl) (Nat.le_of_ble_eq_true rfl) ?_
  refine W.eq (g2 := F0 m 4 ls []) rfl ?_
  refine lv_aload_n hx hb d7_init_4 rfl (lv_at hl 0 rfl) ?_
  refine lv_bipush (v := 16) hx hb d7_init_5 (by decide) ?_
  refine cr_newa (atype := .boolean) (ty := .boolean) (t0 := 1) (N := 16) hx hb rfl (hw _ ac_boolean) hK hC hZn rfl (hK.2 1 _ rfl).2 rfl (by decide) (by decide) (by decide) (by decide) (by decide) d7_init_7 (fun q1 H eq1 hC => ?_)
  have hC := c_abs hC 22 0 (fun h => absurd h.1 (by decide)) (fun _ _ _ => 0) (fun _ _ _ => 0) (fun _ _ => none) (fun _ _ _ _ => rfl) (fun _ _ _ _ => rfl) (fun _ _ _ _ => rfl) (c_arr (f0 := 22) (n0 := 0) (hC.2.2.1 _ List.mem_cons_self).1 ⟨by decide, rfl, rfl⟩ adx_s (fun _ _ => rfl)) (fun h => absurd h (by decide)) (fun h => absurd h (by decide))
  rw [xL_c] at hC
  obtain ⟨ad1, had1⟩ : ∃ z : Nat → Nat → Nat, z = adx ad0 22 0 q1 := ⟨_, rfl⟩
  rw [← had1] at hC
  refine W.widen (k := 1) (n := 16) (by decide) (by decide) ?_
  refine cr_put (v := .ref q1) hx hb hw hown hK hC 1 rfl us7 tk7 nm7 (by decide) fl_7_7 (Or.inr ⟨rfl, hin, rfl⟩) rfl rfl (Nat.le_of_ble_eq_true rfl) d7_init_9 (fun H locs hC => ?_)
  have hC : c_B D aC ad1 (xL [22]) (fun q => q = h0 ∨ s.heap.size ≤ q) (fun _ _ _ => 0) (fun _ _ _ => 0) (fun _ _ => none) [(h0, .inr (7, [.int 0, .ref q1, .null, .null, .null, .null, .int 0, .int 0, .int 0, .int 0, .null, .null, .null, .null, .null, .null, .null, .null, .null, .null, .int 0, .null, .null, .null, .null, .null, .null, .int 0, .int 0, .int 0, .int 0, .int 0, .int 0, .int 0, .int 0, .null, .null, .int 0, .null]))] s.heap H locs := hC
  refine lv_aload_n hx hb d7_init_12 rfl (lv_at hl 0 rfl) ?_
  refine lv_bipush (v := 16) hx hb d7_init_13 (by decide) ?_
  refine cr_newa (atype := .int) (ty := .int) (t0 := 0) (N := 16) hx hb rfl (hw _ ac_int) hK hC hZn rfl (hK.2 0 _ rfl).2 rfl (by decide) (by decide) (by decide) (by decide) (by decide) d7_init_15 (fun q2 H eq2 hC => ?_)
  have hC := c_abs hC 23 0 (fun h => absurd h.1 (by decide)) (fun _ _ _ => 0) (fun _ _ _ => 0) (fun _ _ => none) (fun _ _ _ _ => rfl) (fun _ _ _ _ => rfl) (fun _ _ _ _ => rfl) (c_arr (f0 := 23) (n0 := 0) (hC.2.2.1 _ List.mem_cons_self).1 ⟨by decide, rfl, rfl⟩ adx_s (fun _ _ => rfl)) (fun h => absurd h (by decide)) (fun h => absurd h (by decide))
  rw [xL_c] at hC
  obtain ⟨ad2, had2⟩ : ∃ z : Nat → Nat → Nat, z = adx ad1 23 0 q2 := ⟨_, rfl⟩
  rw [← had2] at hC
  refine W.widen (k := 2) (n := 32) (by decide) (by decide) ?_
  refine cr_put (v := .ref q2) hx hb hw hown hK hC 2 rfl us7 tk7 nm7 (by decide) fl_7_13 (Or.inr ⟨rfl, hin, rfl⟩) rfl rfl (Nat.le_of_ble_eq_true rfl) d7_init_17 (fun H locs hC => ?_)
  have hC : c_B D aC ad2 (xL [23, 22]) (fun q => q = h0 ∨ s.heap.size ≤ q) (fun _ _ _ => 0) (fun _ _ _ => 0) (fun _ _ => none) [(h0, .inr (7, [.int 0, .ref q1, .ref q2, .null, .null, .null, .int 0, .int 0, .int 0, .int 0, .null, .null, .null, .null, .null, .null, .null, .null, .null, .null, .int 0, .null, .null, .null, .null, .null, .null, .int 0, .int 0, .int 0, .int 0, .int 0, .int 0, .int 0, .int 0, .null, .null, .int 0, .null]))] s.heap H locs := hC
  refine lv_aload_n hx hb d7_init_20 rfl (lv_at hl 0 rfl) ?_
  refine lv_bipush (v := 16) hx hb d7_init_21 (by decide) ?_
  refine cr_newa (atype := .int) (ty := .int) (t0 := 0) (N := 16) hx hb rfl (hw _ ac_int) hK hC hZn rfl (hK.2 0 _ rfl).2 rfl (by decide) (by decide) (by decide) (by decide) (by decide) d7_init_23 (fun q3 H eq3 hC => ?_)
  have hC := c_abs hC 24 0 (fun h => absurd h.1 (by decide)) (fun _ _ _ => 0) (fun _ _ _ => 0) (fun _ _ => none) (fun _ _ _ _ => rfl) (fun _ _ _ _ => rfl) (fun _ _ _ _ => rfl) (c_arr (f0 := 24) (n0 := 0) (hC.2.2.1 _ List.mem_cons_self).1 ⟨by decide, rfl, rfl⟩ adx_s (fun _ _ => rfl)) (fun h => absurd h (by decide)) (fun h => absurd h (by decide))
  rw [xL_c] at hC
  obtain ⟨ad3, had3⟩ : ∃ z : Nat → Nat → Nat, z = adx ad2 24 0 q3 := ⟨_, rfl⟩
  rw [← had3] at hC
  refine W.widen (k := 3) (n := 48) (by decide) (by decide) ?_
  refine cr_put (v := .ref q3) hx hb hw hown hK hC 3 rfl us7 tk7 nm7 (by decide) fl_7_17 (Or.inr ⟨rfl, hin, rfl⟩) rfl rfl (Nat.le_of_ble_eq_true rfl) d7_init_25 (fun H locs hC => ?_)
  have hC : c_B D aC ad3 (xL [24, 23, 22]) (fun q => q = h0 ∨ s.heap.size ≤ q) (fun _ _ _ => 0) (fun _ _ _ => 0) (fun _ _ => none) [(h0, .inr (7, [.int 0, .ref q1, .ref q2, .ref q3, .null, .null, .int 0, .int 0, .int 0, .int 0, .null, .null, .null, .null, .null, .null, .null, .null, .null, .null, .int 0, .null, .null, .null, .null, .null, .null, .int 0, .int 0, .int 0, .int 0, .int 0, .int 0, .int 0, .int 0, .null, .null, .int 0, .null]))] s.heap H locs := hC
  refine lv_aload_n hx hb d7_init_28 rfl (lv_at hl 0 rfl) ?_
  refine lv_bipush (v := 16) hx hb d7_init_29 (by decide) ?_
  refine cr_newa (atype := .int) (ty := .int) (t0 := 0) (N := 16) hx hb rfl (hw _ ac_int) hK hC hZn rfl (hK.2 0 _ rfl).2 rfl (by decide) (by decide) (by decide) (by decide) (by decide) d7_init_31 (fun q4 H eq4 hC => ?_)
  have hC := c_abs hC 25 0 (fun h => absurd h.1 (by decide)) (fun _ _ _ => 0) (fun _ _ _ => 0) (fun _ _ => none) (fun _ _ _ _ => rfl) (fun _ _ _ _ => rfl) (fun _ _ _ _ => rfl) (c_arr (f0 := 25) (n0 := 0) (hC.2.2.1 _ List.mem_cons_self).1 ⟨by decide, rfl, rfl⟩ adx_s (fun _ _ => rfl)) (fun h => absurd h (by decide)) (fun h => absurd h (by decide))
  rw [xL_c] at hC
  obtain ⟨ad4, had4⟩ : ∃ z : Nat → Nat → Nat, z = adx ad3 25 0 q4 := ⟨_, rfl⟩
  rw [← had4] at hC
  refine W.widen (k := 4) (n := 64) (by decide) (by decide) ?_
  refine cr_put (v := .ref q4) hx hb hw hown hK hC 4 rfl us7 tk7 nm7 (by decide) fl_7_20 (Or.inr ⟨rfl, hin, rfl⟩) rfl rfl (Nat.le_of_ble_eq_true rfl) d7_init_33 (fun H locs hC => ?_)
  have hC : c_B D aC ad4 (xL [25, 24, 23, 22]) (fun q => q = h0 ∨ s.heap.size ≤ q) (fun _ _ _ => 0) (fun _ _ _ => 0) (fun _ _ => none) [(h0, .inr (7, [.int 0, .ref q1, .ref q2, .ref q3, .ref q4, .null, .int 0, .int 0, .int 0, .int 0, .null, .null, .null, .null, .null, .null, .null, .null, .null, .null, .int 0, .null, .null, .null, .null, .null, .null, .int 0, .int 0, .int 0, .int 0, .int 0, .int 0, .int 0, .int 0, .null, .null, .int 0, .null]))] s.heap H locs := hC
  refine lv_aload_n hx hb d7_init_36 rfl (lv_at hl 0 rfl) ?_
  refine lv_bipush (v := 16) hx hb d7_init_37 (by decide) ?_
  refine cr_newa (atype := .int) (ty := .int) (t0 := 0) (N := 16) hx hb rfl (hw _ ac_int) hK hC hZn rfl (hK.2 0 _ rfl).2 rfl (by decide) (by decide) (by decide) (by decide) (by decide) d7_init_39 (fun q5 H eq5 hC => ?_)
  have hC := c_abs hC 26 0 (fun h => absurd h.1 (by decide)) (fun _ _ _ => 0) (fun _ _ _ => 0) (fun _ _ => none) (fun _ _ _ _ => rfl) (fun _ _ _ _ => rfl) (fun _ _ _ _ => rfl) (c_arr (f0 := 26) (n0 := 0) (hC.2.2.1 _ List.mem_cons_self).1 ⟨by decide, rfl, rfl⟩ adx_s (fun _ _ => rfl)) (fun h => absurd h (by decide)) (fun h => absurd h (by decide))
  rw [xL_c] at hC
  obtain ⟨ad5, had5⟩ : ∃ z : Nat → Nat → Nat, z = adx ad4 26 0 q5 := ⟨_, rfl⟩
  rw [← had5] at hC
  refine W.widen (k := 5) (n := 80) (by decide) (by decide) ?_
  refine cr_put (v := .ref q5) hx hb hw hown hK hC 5 rfl us7 tk7 nm7 (by decide) fl_7_23 (Or.inr ⟨rfl, hin, rfl⟩) rfl rfl (Nat.le_of_ble_eq_true rfl) d7_init_41 (fun H locs hC => ?_)
  have hC : c_B D aC ad5 (xL [26, 25, 24, 23, 22]) (fun q => q = h0 ∨ s.heap.size ≤ q) (fun _ _ _ => 0) (fun _ _ _ => 0) (fun _ _ => none) [(h0, .inr (7, [.int 0, .ref q1, .ref q2, .ref q3, .ref q4, .ref q5, .int 0, .int 0, .int 0, .int 0, .null, .null, .null, .null, .null, .null, .null, .null, .null, .null, .int 0, .null, .null, .null, .null, .null, .null, .int 0, .int 0, .int 0, .int 0, .int 0, .int 0, .int 0, .int 0, .null, .null, .int 0, .null]))] s.heap H locs := hC
  refine lv_aload_n hx hb d7_init_44 rfl (lv_at hl 0 rfl) ?_
  refine lv_iconst (v := (-1)) hx hb d7_init_45 (by decide) ?_
  refine cr_put (v := .int (-1)) hx hb hw hown hK hC 6 rfl us7 tk7 nm7 (by decide) fl_7_26 (Or.inl rfl) rfl rfl (Nat.le_of_ble_eq_true rfl) d7_init_46 (fun H locs hC => ?_)
  have hC : c_B D aC ad5 (xL [26, 25, 24, 23, 22]) (fun q => q = h0 ∨ s.heap.size ≤ q) (fun _ _ _ => 0) (fun _ _ _ => 0) (fun _ _ => none) [(h0, .inr (7, [.int 0, .ref q1, .ref q2, .ref q3, .ref q4, .ref q5, .int (-1), .int 0, .int 0, .int 0, .null, .null, .null, .null, .null, .null, .null, .null, .null, .null, .int 0, .null, .null, .null, .null, .null, .null, .int 0, .int 0, .int 0, .int 0, .int 0, .int 0, .int 0, .int 0, .null, .null, .int 0, .null]))] s.heap H locs := hC
  refine lv_aload_n hx hb d7_init_49 rfl (lv_at hl 0 rfl) ?_
  refine lv_iconst (v := (-1)) hx hb d7_init_50 (by decide) ?_
  refine cr_put (v := .int (-1)) hx hb hw hown hK hC 8 rfl us7 tk7 nm7 (by decide) fl_7_30 (Or.inl rfl) rfl rfl (Nat.le_of_ble_eq_true rfl) d7_init_51 (fun H locs hC => ?_)
  have hC : c_B D aC ad5 (xL [26, 25, 24, 23, 22]) (fun q => q = h0 ∨ s.heap.size ≤ q) (fun _ _ _ => 0) (fun _ _ _ => 0) (fun _ _ => none) [(h0, .inr (7, [.int 0, .ref q1, .ref q2, .ref q3, .ref q4, .ref q5, .int (-1), .int 0, .int (-1), .int 0, .null, .null, .null, .null, .null, .null, .null, .null, .null, .null, .int 0, .null, .null, .null, .null, .null, .null, .int 0, .int 0, .int 0, .int 0, .int 0, .int 0, .int 0, .int 0, .null, .null, .int 0, .null]))] s.heap H locs := hC
  refine lv_aload_n hx hb d7_init_54 rfl (lv_at hl 0 rfl) ?_
  refine lv_bipush (v := 32) hx hb d7_init_55 (by decide) ?_
  refine cr_newa (atype := .boolean) (ty := .boolean) (t0 := 1) (N := 32) hx hb rfl (hw _ ac_boolean) hK hC hZn rfl (hK.2 1 _ rfl).2 rfl (by decide) (by decide) (by decide) (by decide) (by decide) d7_init_57 (fun q6 H eq6 hC => ?_)
  have hC := c_abs hC 31 0 (fun h => absurd h.1 (by decide)) (fun _ _ _ => 0) (fun _ _ _ => 0) (fun _ _ => none) (fun _ _ _ _ => rfl) (fun _ _ _ _ => rfl) (fun _ _ _ _ => rfl) (c_arr (f0 := 31) (n0 := 0) (hC.2.2.1 _ List.mem_cons_self).1 ⟨by decide, rfl, rfl⟩ adx_s (fun _ _ => rfl)) (fun h => absurd h (by decide)) (fun h => absurd h (by decide))
  rw [xL_c] at hC
  obtain ⟨ad6, had6⟩ : ∃ z : Nat → Nat → Nat, z = adx ad5 31 0 q6 := ⟨_, rfl⟩
  rw [← had6] at hC
  refine W.widen (k := 6) (n := 112) (by decide) (by decide) ?_
  refine cr_put (v := .ref q6) hx hb hw hown hK hC 10 rfl us7 tk7 nm7 (by decide) fl_7_33 (Or.inr ⟨rfl, hin, rfl⟩) rfl rfl (Nat.le_of_ble_eq_true rfl) d7_init_59 (fun H locs hC => ?_)
  have hC : c_B D aC ad6 (xL [31, 26, 25, 24, 23, 22]) (fun q => q = h0 ∨ s.heap.size ≤ q) (fun _ _ _ => 0) (fun _ _ _ => 0) (fun _ _ => none) [(h0, .inr (7, [.int 0, .ref q1, .ref q2, .ref q3, .ref q4, .ref q5, .int (-1), .int 0, .int (-1), .int 0, .ref q6, .null, .null, .null, .null, .null, .null, .null, .null, .null, .int 0, .null, .null, .null, .null, .null, .null, .int 0, .int 0, .int 0, .int 0, .int 0, .int 0, .int 0, .int 0, .null, .null, .int 0, .null]))] s.heap H locs := hC
  refine lv_aload_n hx hb d7_init_62 rfl (lv_at hl 0 rfl) ?_
  refine lv_bipush (v := 32) hx hb d7_init_63 (by decide) ?_
  refine cr_newa (atype := .boolean) (ty := .boolean) (t0 := 1) (N := 32) hx hb rfl (hw _ ac_boolean) hK hC hZn rfl (hK.2 1 _ rfl).2 rfl (by decide) (by decide) (by decide) (by decide) (by decide) d7_init_65 (fun q7 H eq7 hC => ?_)
  have hC := c_abs hC 32 0 (fun h => absurd h.1 (by decide)) (fun _ _ _ => 0) (fun _ _ _ => 0) (fun _ _ => none) (fun _ _ _ _ => rfl) (fun _ _ _ _ => rfl) (fun _ _ _ _ => rfl) (c_arr (f0 := 32) (n0 := 0) (hC.2.2.1 _ List.mem_cons_self).1 ⟨by decide, rfl, rfl⟩ adx_s (fun _ _ => rfl)) (fun h => absurd h (by decide)) (fun h => absurd h (by decide))
  rw [xL_c] at hC
  obtain ⟨ad7, had7⟩ : ∃ z : Nat → Nat → Nat, z = adx ad6 32 0 q7 := ⟨_, rfl⟩
  rw [← had7] at hC
  refine W.widen (k := 7) (n := 144) (by decide) (by decide) ?_
  refine cr_put (v := .ref q7) hx hb hw hown hK hC 11 rfl us7 tk7 nm7 (by decide) fl_7_36 (Or.inr ⟨rfl, hin, rfl⟩) rfl rfl (Nat.le_of_ble_eq_true rfl) d7_init_67 (fun H locs hC => ?_)
  have hC : c_B D aC ad7 (xL [32, 31, 26, 25, 24, 23, 22]) (fun q => q = h0 ∨ s.heap.size ≤ q) (fun _ _ _ => 0) (fun _ _ _ => 0) (fun _ _ => none) [(h0, .inr (7, [.int 0, .ref q1, .ref q2, .ref q3, .ref q4, .ref q5, .int (-1), .int 0, .int (-1), .int 0, .ref q6, .ref q7, .null, .null, .null, .null, .null, .null, .null, .null, .int 0, .null, .null, .null, .null, .null, .null, .int 0, .int 0, .int 0, .int 0, .int 0, .int 0, .int 0, .int 0, .null, .null, .int 0, .null]))] s.heap H locs := hC
  refine lv_aload_n hx hb d7_init_70 rfl (lv_at hl 0 rfl) ?_
  refine lv_bipush (v := 32) hx hb d7_init_71 (by decide) ?_
  refine cr_newa (atype := .int) (ty := .int) (t0 := 0) (N := 32) hx hb rfl (hw _ ac_int) hK hC hZn rfl (hK.2 0 _ rfl).2 rfl (by decide) (by decide) (by decide) (by decide) (by decide) d7_init_73 (fun q8 H eq8 hC => ?_)
  have hC := c_abs hC 33 0 (fun h => absurd h.1 (by decide)) (fun _ _ _ => 0) (fun _ _ _ => 0) (fun _ _ => none) (fun _ _ _ _ => rfl) (fun _ _ _ _ => rfl) (fun _ _ _ _ => rfl) (c_arr (f0 := 33) (n0 := 0) (hC.2.2.1 _ List.mem_cons_self).1 ⟨by decide, rfl, rfl⟩ adx_s (fun _ _ => rfl)) (fun h => absurd h (by decide)) (fun h => absurd h (by decide))
  rw [xL_c] at hC
  obtain ⟨ad8, had8⟩ : ∃ z : Nat → Nat → Nat, z = adx ad7 33 0 q8 := ⟨_, rfl⟩
  rw [← had8] at hC
  refine W.widen (k := 8) (n := 176) (by decide) (by decide) ?_
  refine cr_put (v := .ref q8) hx hb hw hown hK hC 12 rfl us7 tk7 nm7 (by decide) fl_7_39 (Or.inr ⟨rfl, hin, rfl⟩) rfl rfl (Nat.le_of_ble_eq_true rfl) d7_init_75 (fun H locs hC => ?_)
  have hC : c_B D aC ad8 (xL [33, 32, 31, 26, 25, 24, 23, 22]) (fun q => q = h0 ∨ s.heap.size ≤ q) (fun _ _ _ => 0) (fun _ _ _ => 0) (fun _ _ => none) [(h0, .inr (7, [.int 0, .ref q1, .ref q2, .ref q3, .ref q4, .ref q5, .int (-1), .int 0, .int (-1), .int 0, .ref q6, .ref q7, .ref q8, .null, .null, .null, .null, .null, .null, .null, .int 0, .null, .null, .null, .null, .null, .null, .int 0, .int 0, .int 0, .int 0, .int 0, .int 0, .int 0, .int 0, .null, .null, .int 0, .null]))] s.heap H locs := hC
  refine lv_aload_n hx hb d7_init_78 rfl (lv_at hl 0 rfl) ?_
  refine lv_bipush (v := 32) hx hb d7_init_79 (by decide) ?_
  refine cr_newa (atype := .int) (ty := .int) (t0 := 0) (N := 32) hx hb rfl (hw _ ac_int) hK hC hZn rfl (hK.2 0 _ rfl).2 rfl (by decide) (by decide) (by decide) (by decide) (by decide) d7_init_81 (fun q9 H eq9 hC => ?_)
  have hC := c_abs hC 34 0 (fun h => absurd h.1 (by decide)) (fun _ _ _ => 0) (fun _ _ _ => 0) (fun _ _ => none) (fun _ _ _ _ => rfl) (fun _ _ _ _ => rfl) (fun _ _ _ _ => rfl) (c_arr (f0 := 34) (n0 := 0) (hC.2.2.1 _ List.mem_cons_self).1 ⟨by decide, rfl, rfl⟩ adx_s (fun _ _ => rfl)) (fun h => absurd h (by decide)) (fun h => absurd h (by decide))
  rw [xL_c] at hC
  obtain ⟨ad9, had9⟩ : ∃ z : Nat → Nat → Nat, z = adx ad8 34 0 q9 := ⟨_, rfl⟩
  rw [← had9] at hC
  refine W.widen (k := 9) (n := 208) (by decide) (by decide) ?_
  refine cr_put (v := .ref q9) hx hb hw hown hK hC 13 rfl us7 tk7 nm7 (by decide) fl_7_42 (Or.inr ⟨rfl, hin, rfl⟩) rfl rfl (Nat.le_of_ble_eq_true rfl) d7_init_83 (fun H locs hC => ?_)
  have hC : c_B D aC ad9 (xL [34, 33, 32, 31, 26, 25, 24, 23, 22]) (fun q => q = h0 ∨ s.heap.size ≤ q) (fun _ _ _ => 0) (fun _ _ _ => 0) (fun _ _ => none) [(h0, .inr (7, [.int 0, .ref q1, .ref q2, .ref q3, .ref q4, .ref q5, .int (-1), .int 0, .int (-1), .int 0, .ref q6, .ref q7, .ref q8, .ref q9, .null, .null, .null, .null, .null, .null, .int 0, .null, .null, .null, .null, .null, .null, .int 0, .int 0, .int 0, .int 0, .int 0, .int 0, .int 0, .int 0, .null, .null, .int 0, .null]))] s.heap H locs := hC
  refine lv_aload_n hx hb d7_init_86 rfl (lv_at hl 0 rfl) ?_
  refine lv_bipush (v := 64) hx hb d7_init_87 (by decide) ?_
  refine cr_newa (atype := .int) (ty := .int) (t0 := 0) (N := 64) hx hb rfl (hw _ ac_int) hK hC hZn rfl (hK.2 0 _ rfl).2 rfl (by decide) (by decide) (by decide) (by decide) (by decide) d7_init_89 (fun q10 H eq10 hC => ?_)
  have hC := c_abs hC 35 0 (fun h => absurd h.1 (by decide)) (fun _ _ _ => 0) (fun _ _ _ => 0) (fun _ _ => none) (fun _ _ _ _ => rfl) (fun _ _ _ _ => rfl) (fun _ _ _ _ => rfl) (c_arr (f0 := 35) (n0 := 0) (hC.2.2.1 _ List.mem_cons_self).1 ⟨by decide, rfl, rfl⟩ adx_s (fun _ _ => rfl)) (fun h => absurd h (by decide)) (fun h => absurd h (by decide))
  rw [xL_c] at hC
  obtain ⟨ad10, had10⟩ : ∃ z : Nat → Nat → Nat, z = adx ad9 35 0 q10 := ⟨_, rfl⟩
  rw [← had10] at hC
  refine W.widen (k := 10) (n := 272) (by decide) (by decide) ?_
  refine cr_put (v := .ref q10) hx hb hw hown hK hC 14 rfl us7 tk7 nm7 (by decide) fl_7_45 (Or.inr ⟨rfl, hin, rfl⟩) rfl rfl (Nat.le_of_ble_eq_true rfl) d7_init_91 (fun H locs hC => ?_)
  have hC : c_B D aC ad10 (xL [35, 34, 33, 32, 31, 26, 25, 24, 23, 22]) (fun q => q = h0 ∨ s.heap.size ≤ q) (fun _ _ _ => 0) (fun _ _ _ => 0) (fun _ _ => none) [(h0, .inr (7, [.int 0, .ref q1, .ref q2, .ref q3, .ref q4, .ref q5, .int (-1), .int 0, .int (-1), .int 0, .ref q6, .ref q7, .ref q8, .ref q9, .ref q10, .null, .null, .null, .null, .null, .int 0, .null, .null, .null, .null, .null, .null, .int 0, .int 0, .int 0, .int 0, .int 0, .int 0, .int 0, .int 0, .null, .null, .int 0, .null]))] s.heap H locs := hC
  refine lv_aload_n hx hb d7_init_94 rfl (lv_at hl 0 rfl) ?_
  refine lv_bipush (v := 64) hx hb d7_init_95 (by decide) ?_
  refine cr_newa (atype := .int) (ty := .int) (t0 := 0) (N := 64) hx hb rfl (hw _ ac_int) hK hC hZn rfl (hK.2 0 _ rfl).2 rfl (by decide) (by decide) (by decide) (by decide) (by decide) d7_init_97 (fun q11 H eq11 hC => ?_)
  have hC := c_abs hC 36 0 (fun h => absurd h.1 (by decide)) (fun _ _ _ => 0) (fun _ _ _ => 0) (fun _ _ => none) (fun _ _ _ _ => rfl) (fun _ _ _ _ => rfl) (fun _ _ _ _ => rfl) (c_arr (f0 := 36) (n0 := 0) (hC.2.2.1 _ List.mem_cons_self).1 ⟨by decide, rfl, rfl⟩ adx_s (fun _ _ => rfl)) (fun h => absurd h (by decide)) (fun h => absurd h (by decide))
  rw [xL_c] at hC
  obtain ⟨ad11, had11⟩ : ∃ z : Nat → Nat → Nat, z = adx ad10 36 0 q11 := ⟨_, rfl⟩
  rw [← had11] at hC
  refine W.widen (k := 11) (n := 336) (by decide) (by decide) ?_
  refine cr_put (v := .ref q11) hx hb hw hown hK hC 15 rfl us7 tk7 nm7 (by decide) fl_7_48 (Or.inr ⟨rfl, hin, rfl⟩) rfl rfl (Nat.le_of_ble_eq_true rfl) d7_init_99 (fun H locs hC => ?_)
  have hC : c_B D aC ad11 (xL [36, 35, 34, 33, 32, 31, 26, 25, 24, 23, 22]) (fun q => q = h0 ∨ s.heap.size ≤ q) (fun _ _ _ => 0) (fun _ _ _ => 0) (fun _ _ => none) [(h0, .inr (7, [.int 0, .ref q1, .ref q2, .ref q3, .ref q4, .ref q5, .int (-1), .int 0, .int (-1), .int 0, .ref q6, .ref q7, .ref q8, .ref q9, .ref q10, .ref q11, .null, .null, .null, .null, .int 0, .null, .null, .null, .null, .null, .null, .int 0, .int 0, .int 0, .int 0, .int 0, .int 0, .int 0, .int 0, .null, .null, .int 0, .null]))] s.heap H locs := hC
  refine lv_aload_n hx hb d7_init_102 rfl (lv_at hl 0 rfl) ?_
  refine lv_sipush (v := 384) hx hb d7_init_103 (by decide) ?_
  refine cr_newa (atype := .int) (ty := .int) (t0 := 0) (N := 384) hx hb rfl (hw _ ac_int) hK hC hZn rfl (hK.2 0 _ rfl).2 rfl (by decide) (by decide) (by decide) (by decide) (by decide) d7_init_106 (fun q12 H eq12 hC => ?_)
  have hC := c_abs hC 37 0 (fun h => absurd h.1 (by decide)) (fun _ _ _ => 0) (fun _ _ _ => 0) (fun _ _ => none) (fun _ _ _ _ => rfl) (fun _ _ _ _ => rfl) (fun _ _ _ _ => rfl) (c_arr (f0 := 37) (n0 := 0) (hC.2.2.1 _ List.mem_cons_self).1 ⟨by decide, rfl, rfl⟩ adx_s (fun _ _ => rfl)) (fun h => absurd h (by decide)) (fun h => absurd h (by decide))
  rw [xL_c] at hC
  obtain ⟨ad12, had12⟩ : ∃ z : Nat → Nat → Nat, z = adx ad11 37 0 q12 := ⟨_, rfl⟩
  rw [← had12] at hC
  refine W.widen (k := 12) (n := 720) (by decide) (by decide) ?_
  refine cr_put (v := .ref q12) hx hb hw hown hK hC 16 rfl us7 tk7 nm7 (by decide) fl_7_51 (Or.inr ⟨rfl, hin, rfl⟩) rfl rfl (Nat.le_of_ble_eq_true rfl) d7_init_108 (fun H locs hC => ?_)
  have hC : c_B D aC ad12 (xL [37, 36, 35, 34, 33, 32, 31, 26, 25, 24, 23, 22]) (fun q => q = h0 ∨ s.heap.size ≤ q) (fun _ _ _ => 0) (fun _ _ _ => 0) (fun _ _ => none) [(h0, .inr (7, [.int 0, .ref q1, .ref q2, .ref q3, .ref q4, .ref q5, .int (-1), .int 0, .int (-1), .int 0, .ref q6, .ref q7, .ref q8, .ref q9, .ref q10, .ref q11, .ref q12, .null, .null, .null, .int 0, .null, .null, .null, .null, .null, .null, .int 0, .int 0, .int 0, .int 0, .int 0, .int 0, .int 0, .int 0, .null, .null, .int 0, .null]))] s.heap H locs := hC
  refine lv_aload_n hx hb d7_init_111 rfl (lv_at hl 0 rfl) ?_
  refine lv_sipush (v := 384) hx hb d7_init_112 (by decide) ?_
  refine cr_newa (atype := .int) (ty := .int) (t0 := 0) (N := 384) hx hb rfl (hw _ ac_int) hK hC hZn rfl (hK.2 0 _ rfl).2 rfl (by decide) (by decide) (by decide) (by decide) (by decide) d7_init_115 (fun q13 H eq13 hC => ?_)
  have hC := c_abs hC 38 0 (fun h => absurd h.1 (by decide)) (fun _ _ _ => 0) (fun _ _ _ => 0) (fun _ _ => none) (fun _ _ _ _ => rfl) (fun _ _ _ _ => rfl) (fun _ _ _ _ => rfl) (c_arr (f0 := 38) (n0 := 0) (hC.2.2.1 _ List.mem_cons_self).1 ⟨by decide, rfl, rfl⟩ adx_s (fun _ _ => rfl)) (fun h => absurd h (by decide)) (fun h => absurd h (by decide))
  rw [xL_c] at hC
  obtain ⟨ad13, had13⟩ : ∃ z : Nat → Nat → Nat, z = adx ad12 38 0 q13 := ⟨_, rfl⟩
  rw [← had13] at hC
  refine W.widen (k := 13) (n := 1104) (by decide) (by decide) ?_
  refine cr_put (v := .ref q13) hx hb hw hown hK hC 17 rfl us7 tk7 nm7 (by decide) fl_7_54 (Or.inr ⟨rfl, hin, rfl⟩) rfl rfl (Nat.le_of_ble_eq_true rfl) d7_init_117 (fun H locs hC => ?_)
  have hC : c_B D aC ad13 (xL [38, 37, 36, 35, 34, 33, 32, 31, 26, 25, 24, 23, 22]) (fun q => q = h0 ∨ s.heap.size ≤ q) (fun _ _ _ => 0) (fun _ _ _ => 0) (fun _ _ => none) [(h0, .inr (7, [.int 0, .ref q1, .ref q2, .ref q3, .ref q4, .ref q5, .int (-1), .int 0, .int (-1), .int 0, .ref q6, .ref q7, .ref q8, .ref q9, .ref q10, .ref q11, .ref q12, .ref q13, .null, .null, .int 0, .null, .null, .null, .null, .null, .null, .int 0, .int 0, .int 0, .int 0, .int 0, .int 0, .int 0, .int 0, .null, .null, .int 0, .null]))] s.heap H locs := hC
  refine lv_aload_n hx hb d7_init_120 rfl (lv_at hl 0 rfl) ?_
  refine lv_bipush (v := 64) hx hb d7_init_121 (by decide) ?_
  refine cr_newa (atype := .int) (ty := .int) (t0 := 0) (N := 64) hx hb rfl (hw _ ac_int) hK hC hZn rfl (hK.2 0 _ rfl).2 rfl (by decide) (by decide) (by decide) (by decide) (by decide) d7_init_123 (fun q14 H eq14 hC => ?_)
  have hC := c_abs hC 39 0 (fun h => absurd h.1 (by decide)) (fun _ _ _ => 0) (fun _ _ _ => 0) (fun _ _ => none) (fun _ _ _ _ => rfl) (fun _ _ _ _ => rfl) (fun _ _ _ _ => rfl) (c_arr (f0 := 39) (n0 := 0) (hC.2.2.1 _ List.mem_cons_self).1 ⟨by decide, rfl, rfl⟩ adx_s (fun _ _ => rfl)) (fun h => absurd h (by decide)) (fun h => absurd h (by decide))
  rw [xL_c] at hC
  obtain ⟨ad14, had14⟩ : ∃ z : Nat → Nat → Nat, z = adx ad13 39 0 q14 := ⟨_, rfl⟩
  rw [← had14] at hC
  refine W.widen (k := 14) (n := 1168) (by decide) (by decide) ?_
  refine cr_put (v := .ref q14) hx hb hw hown hK hC 18 rfl us7 tk7 nm7 (by decide) fl_7_57 (Or.inr ⟨rfl, hin, rfl⟩) rfl rfl (Nat.le_of_ble_eq_true rfl) d7_init_125 (fun H locs hC => ?_)
  have hC : c_B D aC ad14 (xL [39, 38, 37, 36, 35, 34, 33, 32, 31, 26, 25, 24, 23, 22]) (fun q => q = h0 ∨ s.heap.size ≤ q) (fun _ _ _ => 0) (fun _ _ _ => 0) (fun _ _ => none) [(h0, .inr (7, [.int 0, .ref q1, .ref q2, .ref q3, .ref q4, .ref q5, .int (-1), .int 0, .int (-1), .int 0, .ref q6, .ref q7, .ref q8, .ref q9, .ref q10, .ref q11, .ref q12, .ref q13, .ref q14, .null, .int 0, .null, .null, .null, .null, .null, .null, .int 0, .int 0, .int 0, .int 0, .int 0, .int 0, .int 0, .int 0, .null, .null, .int 0, .null]))] s.heap H locs := hC
  refine lv_aload_n hx hb d7_init_128 rfl (lv_at hl 0 rfl) ?_
  refine lv_bipush (v := 64) hx hb d7_init_129 (by decide) ?_
  refine cr_newa (atype := .boolean) (ty := .boolean) (t0 := 1) (N := 64) hx hb rfl (hw _ ac_boolean) hK hC hZn rfl (hK.2 1 _ rfl).2 rfl (by decide) (by decide) (by decide) (by decide) (by decide) d7_init_131 (fun q15 H eq15 hC => ?_)
  have hC := c_abs hC 40 0 (fun h => absurd h.1 (by decide)) (fun _ _ _ => 0) (fun _ _ _ => 0) (fun _ _ => none) (fun _ _ _ _ => rfl) (fun _ _ _ _ => rfl) (fun _ _ _ _ => rfl) (c_arr (f0 := 40) (n0 := 0) (hC.2.2.1 _ List.mem_cons_self).1 ⟨by decide, rfl, rfl⟩ adx_s (fun _ _ => rfl)) (fun h => absurd h (by decide)) (fun h => absurd h (by decide))
  rw [xL_c] at hC
  obtain ⟨ad15, had15⟩ : ∃ z : Nat → Nat → Nat, z = adx ad14 40 0 q15 := ⟨_, rfl⟩
  rw [← had15] at hC
  refine W.widen (k := 15) (n := 1232) (by decide) (by decide) ?_
  refine cr_put (v := .ref q15) hx hb hw hown hK hC 19 rfl us7 tk7 nm7 (by decide) fl_7_60 (Or.inr ⟨rfl, hin, rfl⟩) rfl rfl (Nat.le_of_ble_eq_true rfl) d7_init_133 (fun H locs hC => ?_)
  have hC : c_B D aC ad15 (xL [40, 39, 38, 37, 36, 35, 34, 33, 32, 31, 26, 25, 24, 23, 22]) (fun q => q = h0 ∨ s.heap.size ≤ q) (fun _ _ _ => 0) (fun _ _ _ => 0) (fun _ _ => none) [(h0, .inr (7, [.int 0, .ref q1, .ref q2, .ref q3, .ref q4, .ref q5, .int (-1), .int 0, .int (-1), .int 0, .ref q6, .ref q7, .ref q8, .ref q9, .ref q10, .ref q11, .ref q12, .ref q13, .ref q14, .ref q15, .int 0, .null, .null, .null, .null, .null, .null, .int 0, .int 0, .int 0, .int 0, .int 0, .int 0, .int 0, .int 0, .null, .null, .int 0, .null]))] s.heap H locs := hC
  refine lv_aload_n hx hb d7_init_136 rfl (lv_at hl 0 rfl) ?_
  refine lv_bipush (v := 60) hx hb d7_init_137 (by decide) ?_
  refine cr_newa (atype := .int) (ty := .int) (t0 := 0) (N := 60) hx hb rfl (hw _ ac_int) hK hC hZn rfl (hK.2 0 _ rfl).2 rfl (by decide) (by decide) (by decide) (by decide) (by decide) d7_init_139 (fun q16 H eq16 hC => ?_)
  have hC := c_abs hC 42 0 (fun h => absurd h.1 (by decide)) (fun _ _ _ => 0) (fun _ _ _ => 0) (fun _ _ => none) (fun _ _ _ _ => rfl) (fun _ _ _ _ => rfl) (fun _ _ _ _ => rfl) (c_arr (f0 := 42) (n0 := 0) (hC.2.2.1 _ List.mem_cons_self).1 ⟨by decide, rfl, rfl⟩ adx_s (fun _ _ => rfl)) (fun h => absurd h (by decide)) (fun h => absurd h (by decide))
  rw [xL_c] at hC
  obtain ⟨ad16, had16⟩ : ∃ z : Nat → Nat → Nat, z = adx ad15 42 0 q16 := ⟨_, rfl⟩
  rw [← had16] at hC
  refine W.widen (k := 16) (n := 1292) (by decide) (by decide) ?_
  refine cr_put (v := .ref q16) hx hb hw hown hK hC 21 rfl us7 tk7 nm7 (by decide) fl_7_63 (Or.inr ⟨rfl, hin, rfl⟩) rfl rfl (Nat.le_of_ble_eq_true rfl) d7_init_141 (fun H locs hC => ?_)
  have hC : c_B D aC ad16 (xL [42, 40, 39, 38, 37, 36, 35, 34, 33, 32, 31, 26, 25, 24, 23, 22]) (fun q => q = h0 ∨ s.heap.size ≤ q) (fun _ _ _ => 0) (fun _ _ _ => 0) (fun _ _ => none) [(h0, .inr (7, [.int 0, .ref q1, .ref q2, .ref q3, .ref q4, .ref q5, .int (-1), .int 0, .int (-1), .int 0, .ref q6, .ref q7, .ref q8, .ref q9, .ref q10, .ref q11, .ref q12, .ref q13, .ref q14, .ref q15, .int 0, .ref q16, .null, .null, .null, .null, .null, .int 0, .int 0, .int 0, .int 0, .int 0, .int 0, .int 0, .int 0, .null, .null, .int 0, .null]))] s.heap H locs := hC
  refine lv_aload_n hx hb d7_init_144 rfl (lv_at hl 0 rfl) ?_
  refine lv_bipush (v := 60) hx hb d7_init_145 (by decide) ?_
  refine cr_newa (atype := .int) (ty := .int) (t0 := 0) (N := 60) hx hb rfl (hw _ ac_int) hK hC hZn rfl (hK.2 0 _ rfl).2 rfl (by decide) (by decide) (by decide) (by decide) (by decide) d7_init_147 (fun q17 H eq17 hC => ?_)
  have hC := c_abs hC 43 0 (fun h => absurd h.1 (by decide)) (fun _ _ _ => 0) (fun _ _ _ => 0) (fun _ _ => none) (fun _ _ _ _ => rfl) (fun _ _ _ _ => rfl) (fun _ _ _ _ => rfl) (c_arr (f0 := 43) (n0 := 0) (hC.2.2.1 _ List.mem_cons_self).1 ⟨by decide, rfl, rfl⟩ adx_s (fun _ _ => rfl)) (fun h => absurd h (by decide)) (fun h => absurd h (by decide))
  rw [xL_c] at hC
  obtain ⟨ad17, had17⟩ : ∃ z : Nat → Nat → Nat, z = adx ad16 43 0 q17 := ⟨_, rfl⟩
  rw [← had17] at hC
  refine W.widen (k := 17) (n := 1352) (by decide) (by decide) ?_
  refine cr_put (v := .ref q17) hx hb hw hown hK hC 22 rfl us7 tk7 nm7 (by decide) fl_7_66 (Or.inr ⟨rfl, hin, rfl⟩) rfl rfl (Nat.le_of_ble_eq_true rfl) d7_init_149 (fun H locs hC => ?_)
  have hC : c_B D aC ad17 (xL [43, 42, 40, 39, 38, 37, 36, 35, 34, 33, 32, 31, 26, 25, 24, 23, 22]) (fun q => q = h0 ∨ s.heap.size ≤ q) (fun _ _ _ => 0) (fun _ _ _ => 0) (fun _ _ => none) [(h0, .inr (7, [.int 0, .ref q1, .ref q2, .ref q3, .ref q4, .ref q5, .int (-1), .int 0, .int (-1), .int 0, .ref q6, .ref q7, .ref q8, .ref q9, .ref q10, .ref q11, .ref q12, .ref q13, .ref q14, .ref q15, .int 0, .ref q16, .ref q17, .null, .null, .null, .null, .int 0, .int 0, .int 0, .int 0, .int 0, .int 0, .int 0, .int 0, .null, .null, .int 0, .null]))] s.heap H locs := hC
  refine lv_aload_n hx hb d7_init_152 rfl (lv_at hl 0 rfl) ?_
  refine lv_bipush (v := 60) hx hb d7_init_153 (by decide) ?_
  refine cr_newa (atype := .int) (ty := .int) (t0 := 0) (N := 60) hx hb rfl (hw _ ac_int) hK hC hZn rfl (hK.2 0 _ rfl).2 rfl (by decide) (by decide) (by decide) (by decide) (by decide) d7_init_155 (fun q18 H eq18 hC => ?_)
  have hC := c_abs hC 44 0 (fun h => absurd h.1 (by decide)) (fun _ _ _ => 0) (fun _ _ _ => 0) (fun _ _ => none) (fun _ _ _ _ => rfl) (fun _ _ _ _ => rfl) (fun _ _ _ _ => rfl) (c_arr (f0 := 44) (n0 := 0) (hC.2.2.1 _ List.mem_cons_self).1 ⟨by decide, rfl, rfl⟩ adx_s (fun _ _ => rfl)) (fun h => absurd h (by decide)) (fun h => absurd h (by decide))
  rw [xL_c] at hC
  obtain ⟨ad18, had18⟩ : ∃ z : Nat → Nat → Nat, z = adx ad17 44 0 q18 := ⟨_, rfl⟩
  rw [← had18] at hC
  refine W.widen (k := 18) (n := 1412) (by decide) (by decide) ?_
  refine cr_put (v := .ref q18) hx hb hw hown hK hC 23 rfl us7 tk7 nm7 (by decide) fl_7_69 (Or.inr ⟨rfl, hin, rfl⟩) rfl rfl (Nat.le_of_ble_eq_true rfl) d7_init_157 (fun H locs hC => ?_)
  have hC : c_B D aC ad18 (xL [44, 43, 42, 40, 39, 38, 37, 36, 35, 34, 33, 32, 31, 26, 25, 24, 23, 22]) (fun q => q = h0 ∨ s.heap.size ≤ q) (fun _ _ _ => 0) (fun _ _ _ => 0) (fun _ _ => none) [(h0, .inr (7, [.int 0, .ref q1, .ref q2, .ref q3, .ref q4, .ref q5, .int (-1), .int 0, .int (-1), .int 0, .ref q6, .ref q7, .ref q8, .ref q9, .ref q10, .ref q11, .ref q12, .ref q13, .ref q14, .ref q15, .int 0, .ref q16, .ref q17, .ref q18, .null, .null, .null, .int 0, .int 0, .int 0, .int 0, .int 0, .int 0, .int 0, .int 0, .null, .null, .int 0, .null]))] s.heap H locs := hC
  refine lv_aload_n hx hb d7_init_160 rfl (lv_at hl 0 rfl) ?_
  refine lv_bipush (v := 60) hx hb d7_init_161 (by decide) ?_
  refine cr_newa (atype := .int) (ty := .int) (t0 := 0) (N := 60) hx hb rfl (hw _ ac_int) hK hC hZn rfl (hK.2 0 _ rfl).2 rfl (by decide) (by decide) (by decide) (by decide) (by decide) d7_init_163 (fun q19 H eq19 hC => ?_)
  have hC := c_abs hC 45 0 (fun h => absurd h.1 (by decide)) (fun _ _ _ => 0) (fun _ _ _ => 0) (fun _ _ => none) (fun _ _ _ _ => rfl) (fun _ _ _ _ => rfl) (fun _ _ _ _ => rfl) (c_arr (f0 := 45) (n0 := 0) (hC.2.2.1 _ List.mem_cons_self).1 ⟨by decide, rfl, rfl⟩ adx_s (fun _ _ => rfl)) (fun h => absurd h (by decide)) (fun h => absurd h (by decide))
  rw [xL_c] at hC
  obtain ⟨ad19, had19⟩ : ∃ z : Nat → Nat → Nat, z = adx ad18 45 0 q19 := ⟨_, rfl⟩
  rw [← had19] at hC
  refine W.widen (k := 19) (n := 1472) (by decide) (by decide) ?_
  refine cr_put (v := .ref q19) hx hb hw hown hK hC 24 rfl us7 tk7 nm7 (by decide) fl_7_72 (Or.inr ⟨rfl, hin, rfl⟩) rfl rfl (Nat.le_of_ble_eq_true rfl) d7_init_165 (fun H locs hC => ?_)
  have hC : c_B D aC ad19 (xL [45, 44, 43, 42, 40, 39, 38, 37, 36, 35, 34, 33, 32, 31, 26, 25, 24, 23, 22]) (fun q => q = h0 ∨ s.heap.size ≤ q) (fun _ _ _ => 0) (fun _ _ _ => 0) (fun _ _ => none) [(h0, .inr (7, [.int 0, .ref q1, .ref q2, .ref q3, .ref q4, .ref q5, .int (-1), .int 0, .int (-1), .int 0, .ref q6, .ref q7, .ref q8, .ref q9, .ref q10, .ref q11, .ref q12, .ref q13, .ref q14, .ref q15, .int 0, .ref q16, .ref q17, .ref q18, .ref q19, .null, .null, .int 0, .int 0, .int 0, .int 0, .int 0, .int 0, .int 0, .int 0, .null, .null, .int 0, .null]))] s.heap H locs := hC
  refine lv_aload_n hx hb d7_init_168 rfl (lv_at hl 0 rfl) ?_
  refine lv_bipush (v := 60) hx hb d7_init_169 (by decide) ?_
  refine cr_newa (atype := .boolean) (ty := .boolean) (t0 := 1) (N := 60) hx hb rfl (hw _ ac_boolean) hK hC hZn rfl (hK.2 1 _ rfl).2 rfl (by decide) (by decide) (by decide) (by decide) (by decide) d7_init_171 (fun q20 H eq20 hC => ?_)
  have hC := c_abs hC 46 0 (fun h => absurd h.1 (by decide)) (fun _ _ _ => 0) (fun _ _ _ => 0) (fun _ _ => none) (fun _ _ _ _ => rfl) (fun _ _ _ _ => rfl) (fun _ _ _ _ => rfl) (c_arr (f0 := 46) (n0 := 0) (hC.2.2.1 _ List.mem_cons_self).1 ⟨by decide, rfl, rfl⟩ adx_s (fun _ _ => rfl)) (fun h => absurd h (by decide)) (fun h => absurd h (by decide))
  rw [xL_c] at hC
  obtain ⟨ad20, had20⟩ : ∃ z : Nat → Nat → Nat, z = adx ad19 46 0 q20 := ⟨_, rfl⟩
  rw [← had20] at hC
  refine W.widen (k := 20) (n := 1532) (by decide) (by decide) ?_
  refine cr_put (v := .ref q20) hx hb hw hown hK hC 25 rfl us7 tk7 nm7 (by decide) fl_7_75 (Or.inr ⟨rfl, hin, rfl⟩) rfl rfl (Nat.le_of_ble_eq_true rfl) d7_init_173 (fun H locs hC => ?_)
  have hC : c_B D aC ad20 (xL [46, 45, 44, 43, 42, 40, 39, 38, 37, 36, 35, 34, 33, 32, 31, 26, 25, 24, 23, 22]) (fun q => q = h0 ∨ s.heap.size ≤ q) (fun _ _ _ => 0) (fun _ _ _ => 0) (fun _ _ => none) [(h0, .inr (7, [.int 0, .ref q1, .ref q2, .ref q3, .ref q4, .ref q5, .int (-1), .int 0, .int (-1), .int 0, .ref q6, .ref q7, .ref q8, .ref q9, .ref q10, .ref q11, .ref q12, .ref q13, .ref q14, .ref q15, .int 0, .ref q16, .ref q17, .ref q18, .ref q19, .ref q20, .null, .int 0, .int 0, .int 0, .int 0, .int 0, .int 0, .int 0, .int 0, .null, .null, .int 0, .null]))] s.heap H locs := hC
  refine lv_aload_n hx hb d7_init_176 rfl (lv_at hl 0 rfl) ?_
  refine lv_bipush (v := 60) hx hb d7_init_177 (by decide) ?_
  refine cr_newa (atype := .int) (ty := .int) (t0 := 0) (N := 60) hx hb rfl (hw _ ac_int) hK hC hZn rfl (hK.2 0 _ rfl).2 rfl (by decide) (by decide) (by decide) (by decide) (by decide) d7_init_179 (fun q21 H eq21 hC => ?_)
  have hC := c_abs hC 47 0 (fun h => absurd h.1 (by decide)) (fun _ _ _ => 0) (fun _ _ _ => 0) (fun _ _ => none) (fun _ _ _ _ => rfl) (fun _ _ _ _ => rfl) (fun _ _ _ _ => rfl) (c_arr (f0 := 47) (n0 := 0) (hC.2.2.1 _ List.mem_cons_self).1 ⟨by decide, rfl, rfl⟩ adx_s (fun _ _ => rfl)) (fun h => absurd h (by decide)) (fun h => absurd h (by decide))
  rw [xL_c] at hC
  obtain ⟨ad21, had21⟩ : ∃ z : Nat → Nat → Nat, z = adx ad20 47 0 q21 := ⟨_, rfl⟩
  rw [← had21] at hC
  refine W.widen (k := 21) (n := 1592) (by decide) (by decide) ?_
  refine cr_put (v := .ref q21) hx hb hw hown hK hC 26 rfl us7 tk7 nm7 (by decide) fl_7_78 (Or.inr ⟨rfl, hin, rfl⟩) rfl rfl (Nat.le_of_ble_eq_true rfl) d7_init_181 (fun H locs hC => ?_)
  have hC : c_B D aC ad21 (xL [47, 46, 45, 44, 43, 42, 40, 39, 38, 37, 36, 35, 34, 33, 32, 31, 26, 25, 24, 23, 22]) (fun q => q = h0 ∨ s.heap.size ≤ q) (fun _ _ _ => 0) (fun _ _ _ => 0) (fun _ _ => none) [(h0, .inr (7, [.int 0, .ref q1, .ref q2, .ref q3, .ref q4, .ref q5, .int (-1), .int 0, .int (-1), .int 0, .ref q6, .ref q7, .ref q8, .ref q9, .ref q10, .ref q11, .ref q12, .ref q13, .ref q14, .ref q15, .int 0, .ref q16, .ref q17, .ref q18, .ref q19, .ref q20, .ref q21, .int 0, .int 0, .int 0, .int 0, .int 0, .int 0, .int 0, .int 0, .null, .null, .int 0, .null]))] s.heap H locs := hC
  refine lv_aload_n hx hb d7_init_184 rfl (lv_at hl 0 rfl) ?_
  refine lv_iconst (v := (-1)) hx hb d7_init_185 (by decide) ?_
  refine cr_put (v := .int (-1)) hx hb hw hown hK hC 27 rfl us7 tk7 nm7 (by decide) fl_7_81 (Or.inl rfl) rfl rfl (Nat.le_of_ble_eq_true rfl) d7_init_186 (fun H locs hC => ?_)
  have hC : c_B D aC ad21 (xL [47, 46, 45, 44, 43, 42, 40, 39, 38, 37, 36, 35, 34, 33, 32, 31, 26, 25, 24, 23, 22]) (fun q => q = h0 ∨ s.heap.size ≤ q) (fun _ _ _ => 0) (fun _ _ _ => 0) (fun _ _ => none) [(h0, .inr (7, [.int 0, .ref q1, .ref q2, .ref q3, .ref q4, .ref q5, .int (-1), .int 0, .int (-1), .int 0, .ref q6, .ref q7, .ref q8, .ref q9, .ref q10, .ref q11, .ref q12, .ref q13, .ref q14, .ref q15, .int 0, .ref q16, .ref q17, .ref q18, .ref q19, .ref q20, .ref q21, .int (-1), .int 0, .int 0, .int 0, .int 0, .int 0, .int 0, .int 0, .null, .null, .int 0, .null]))] s.heap H locs := hC
  refine lv_aload_n hx hb d7_init_189 rfl (lv_at hl 0 rfl) ?_
  refine lv_sipush (v := 1800) hx hb d7_init_190 (by decide) ?_
  refine cr_newa (atype := .int) (ty := .int) (t0 := 0) (N := 1800) hx hb rfl (hw _ ac_int) hK hC hZn rfl (hK.2 0 _ rfl).2 rfl (by decide) (by decide) (by decide) (by decide) (by decide) d7_init_193 (fun q22 H eq22 hC => ?_)
  have hC := c_abs hC 56 0 (fun h => absurd h.1 (by decide)) (fun _ _ _ => 0) (fun _ _ _ => 0) (fun _ _ => none) (fun _ _ _ _ => rfl) (fun _ _ _ _ => rfl) (fun _ _ _ _ => rfl) (c_arr (f0 := 56) (n0 := 0) (hC.2.2.1 _ List.mem_cons_self).1 ⟨by decide, rfl, rfl⟩ adx_s (fun _ _ => rfl)) (fun h => absurd h (by decide)) (fun h => absurd h (by decide))
  rw [xL_c] at hC
  obtain ⟨ad22, had22⟩ : ∃ z : Nat → Nat → Nat, z = adx ad21 56 0 q22 := ⟨_, rfl⟩
  rw [← had22] at hC
  refine W.widen (k := 22) (n := 3392) (by decide) (by decide) ?_
  refine cr_put (v := .ref q22) hx hb hw hown hK hC 35 rfl us7 tk7 nm7 (by decide) fl_7_84 (Or.inr ⟨rfl, hin, rfl⟩) rfl rfl (Nat.le_of_ble_eq_true rfl) d7_init_195 (fun H locs hC => ?_)
  have hC : c_B D aC ad22 (xL [56, 47, 46, 45, 44, 43, 42, 40, 39, 38, 37, 36, 35, 34, 33, 32, 31, 26, 25, 24, 23, 22]) (fun q => q = h0 ∨ s.heap.size ≤ q) (fun _ _ _ => 0) (fun _ _ _ => 0) (fun _ _ => none) [(h0, .inr (7, [.int 0, .ref q1, .ref q2, .ref q3, .ref q4, .ref q5, .int (-1), .int 0, .int (-1), .int 0, .ref q6, .ref q7, .ref q8, .ref q9, .ref q10, .ref q11, .ref q12, .ref q13, .ref q14, .ref q15, .int 0, .ref q16, .ref q17, .ref q18, .ref q19, .ref q20, .ref q21, .int (-1), .int 0, .int 0, .int 0, .int 0, .int 0, .int 0, .int 0, .ref q22, .null, .int 0, .null]))] s.heap H locs := hC
  refine lv_aload_n hx hb d7_init_198 rfl (lv_at hl 0 rfl) ?_
  refine lv_iconst (v := 2) hx hb d7_init_199 (by decide) ?_
  refine cr_newa (atype := .boolean) (ty := .boolean) (t0 := 1) (N := 2) hx hb rfl (hw _ ac_boolean) hK hC hZn rfl (hK.2 1 _ rfl).2 rfl (by decide) (by decide) (by decide) (by decide) (by decide) d7_init_200 (fun q23 H eq23 hC => ?_)
  have hC := c_abs hC 57 0 (fun h => absurd h.1 (by decide)) (fun _ _ _ => 0) (fun _ _ _ => 0) (fun _ _ => none) (fun _ _ _ _ => rfl) (fun _ _ _ _ => rfl) (fun _ _ _ _ => rfl) (c_arr (f0 := 57) (n0 := 0) (hC.2.2.1 _ List.mem_cons_self).1 ⟨by decide, rfl, rfl⟩ adx_s (fun _ _ => rfl)) (fun h => absurd h (by decide)) (fun h => absurd h (by decide))
  rw [xL_c] at hC
  obtain ⟨ad23, had23⟩ : ∃ z : Nat → Nat → Nat, z = adx ad22 57 0 q23 := ⟨_, rfl⟩
  rw [← had23] at hC
  refine W.widen (k := 23) (n := 3394) (by decide) (by decide) ?_
  refine cr_put (v := .ref q23) hx hb hw hown hK hC 36 rfl us7 tk7 nm7 (by decide) fl_7_87 (Or.inr ⟨rfl, hin, rfl⟩) rfl rfl (Nat.le_of_ble_eq_true rfl) d7_init_202 (fun H locs hC => ?_)
  have hC : c_B D aC ad23 (xL [57, 56, 47, 46, 45, 44, 43, 42, 40, 39, 38, 37, 36, 35, 34, 33, 32, 31, 26, 25, 24, 23, 22]) (fun q => q = h0 ∨ s.heap.size ≤ q) (fun _ _ _ => 0) (fun _ _ _ => 0) (fun _ _ => none) [(h0, .inr (7, [.int 0, .ref q1, .ref q2, .ref q3, .ref q4, .ref q5, .int (-1), .int 0, .int (-1), .int 0, .ref q6, .ref q7, .ref q8, .ref q9, .ref q10, .ref q11, .ref q12, .ref q13, .ref q14, .ref q15, .int 0, .ref q16, .ref q17, .ref q18, .ref q19, .ref q20, .ref q21, .int (-1), .int 0, .int 0, .int 0, .int 0, .int 0, .int 0, .int 0, .ref q22, .ref q23, .int 0, .null]))] s.heap H locs := hC
  refine lv_aload_n hx hb d7_init_205 rfl (lv_at hl 0 rfl) ?_
  refine lv_bipush (v := 64) hx hb d7_init_206 (by decide) ?_
  refine cr_newa (atype := .int) (ty := .int) (t0 := 0) (N := 64) hx hb rfl (hw _ ac_int) hK hC hZn rfl (hK.2 0 _ rfl).2 rfl (by decide) (by decide) (by decide) (by decide) (by decide) d7_init_208 (fun q24 H eq24 hC => ?_)
  have hC := c_abs hC 59 0 (fun h => absurd h.1 (by decide)) (fun _ _ _ => 0) (fun _ _ _ => 0) (fun _ _ => none) (fun _ _ _ _ => rfl) (fun _ _ _ _ => rfl) (fun _ _ _ _ => rfl) (c_arr (f0 := 59) (n0 := 0) (hC.2.2.1 _ List.mem_cons_self).1 ⟨by decide, rfl, rfl⟩ adx_s (fun _ _ => rfl)) (fun h => absurd h (by decide)) (fun h => absurd h (by decide))
  rw [xL_c] at hC
  obtain ⟨ad24, had24⟩ : ∃ z : Nat → Nat → Nat, z = adx ad23 59 0 q24 := ⟨_, rfl⟩
  rw [← had24] at hC
  refine W.widen (k := 24) (n := 3458) (by decide) (by decide) ?_
  refine cr_put (v := .ref q24) hx hb hw hown hK hC 38 rfl us7 tk7 nm7 (by decide) fl_7_90 (Or.inr ⟨rfl, hin, rfl⟩) rfl rfl (Nat.le_of_ble_eq_true rfl) d7_init_210 (fun H locs hC => ?_)
  have hC : c_B D aC ad24 (xL [59, 57, 56, 47, 46, 45, 44, 43, 42, 40, 39, 38, 37, 36, 35, 34, 33, 32, 31, 26, 25, 24, 23, 22]) (fun q => q = h0 ∨ s.heap.size ≤ q) (fun _ _ _ => 0) (fun _ _ _ => 0) (fun _ _ => none) [(h0, .inr (7, [.int 0, .ref q1, .ref q2, .ref q3, .ref q4, .ref q5, .int (-1), .int 0, .int (-1), .int 0, .ref q6, .ref q7, .ref q8, .ref q9, .ref q10, .ref q11, .ref q12, .ref q13, .ref q14, .ref q15, .int 0, .ref q16, .ref q17, .ref q18, .ref q19, .ref q20, .ref q21, .int (-1), .int 0, .int 0, .int 0, .int 0, .int 0, .int 0, .int 0, .ref q22, .ref q23, .int 0, .ref q24]))] s.heap H locs := hC
  have hq1 : ad24 22 0 = q1 := by rw [had24, adx_k (f0 := 59) (n0 := 0) (f := 22) (n := 0) (by decide), had23, adx_k (f0 := 57) (n0 := 0) (f := 22) (n := 0) (by decide), had22, adx_k (f0 := 56) (n0 := 0) (f := 22) (n := 0) (by decide), had21, adx_k (f0 := 47) (n0 := 0) (f := 22) (n := 0) (by decide), had20, adx_k (f0 := 46) (n0 := 0) (f := 22) (n := 0) (by decide), had19, adx_k (f0 := 45) (n0 := 0) (f := 22) (n := 0) (by decide), had18, adx_k (f0 := 44) (n0 := 0) (f := 22) (n := 0) (by decide), had17, adx_k (f0 := 43) (n0 := 0) (f := 22) (n := 0) (by decide), had16, adx_k (f0 := 42) (n0 := 0) (f := 22) (n := 0) (by decide), had15, adx_k (f0 := 40) (n0 := 0) (f := 22) (n := 0) (by decide), had14, adx_k (f0 := 39) (n0 := 0) (f := 22) (n := 0) (by decide), had13, adx_k (f0 := 38) (n0 := 0) (f := 22) (n := 0) (by decide), had12, adx_k (f0 := 37) (n0 := 0) (f := 22) (n := 0) (by decide), had11, adx_k (f0 := 36) (n0 := 0) (f := 22) (n := 0) (by decide), had10, adx_k (f0 := 35) (n0 := 0) (f := 22) (n := 0) (by decide), had9, adx_k (f0 := 34) (n0 := 0) (f := 22) (n := 0) (by decide), had8, adx_k (f0 := 33) (n0 := 0) (f := 22) (n := 0) (by decide), had7, adx_k (f0 := 32) (n0 := 0) (f := 22) (n := 0) (by decide), had6, adx_k (f0 := 31) (n0 := 0) (f := 22) (n := 0) (by decide), had5, adx_k (f0 := 26) (n0 := 0) (f := 22) (n := 0) (by decide), had4, adx_k (f0 := 25) (n0 := 0) (f := 22) (n := 0) (by decide), had3, adx_k (f0 := 24) (n0 := 0) (f := 22) (n := 0) (by decide), had2, adx_k (f0 := 23) (n0 := 0) (f := 22) (n := 0) (by decide), had1, adx_s]
  have hq2 : ad24 23 0 = q2 := by rw [had24, adx_k (f0 := 59) (n0 := 0) (f := 23) (n := 0) (by decide), had23, adx_k (f0 := 57) (n0 := 0) (f := 23) (n := 0) (by decide), had22, adx_k (f0 := 56) (n0 := 0) (f := 23) (n := 0) (by decide), had21, adx_k (f0 := 47) (n0 := 0) (f := 23) (n := 0) (by decide), had20, adx_k (f0 := 46) (n0 := 0) (f := 23) (n := 0) (by decide), had19, adx_k (f0 := 45) (n0 := 0) (f := 23) (n := 0) (by decide), had18, adx_k (f0 := 44) (n0 := 0) (f := 23) (n := 0) (by decide), had17, adx_k (f0 := 43) (n0 := 0) (f := 23) (n := 0) (by decide), had16, adx_k (f0 := 42) (n0 := 0) (f := 23) (n := 0) (by decide), had15, adx_k (f0 := 40) (n0 := 0) (f := 23) (n := 0) (by decide), had14, adx_k (f0 := 39) (n0 := 0) (f := 23) (n := 0) (by decide), had13, adx_k (f0 := 38) (n0 := 0) (f := 23) (n := 0) (by decide), had12, adx_k (f0 := 37) (n0 := 0) (f := 23) (n := 0) (by decide), had11, adx_k (f0 := 36) (n0 := 0) (f := 23) (n := 0) (by decide), had10, adx_k (f0 := 35) (n0 := 0) (f := 23) (n := 0) (by decide), had9, adx_k (f0 := 34) (n0 := 0) (f := 23) (n := 0) (by decide), had8, adx_k (f0 := 33) (n0 := 0) (f := 23) (n := 0) (by decide), had7, adx_k (f0 := 32) (n0 := 0) (f := 23) (n := 0) (by decide), had6, adx_k (f0 := 31) (n0 := 0) (f := 23) (n := 0) (by decide), had5, adx_k (f0 := 26) (n0 := 0) (f := 23) (n := 0) (by decide), had4, adx_k (f0 := 25) (n0 := 0) (f := 23) (n := 0) (by decide), had3, adx_k (f0 := 24) (n0 := 0) (f := 23) (n := 0) (by decide), had2, adx_s]
  have hq3 : ad24 24 0 = q3 := by rw [had24, adx_k (f0 := 59) (n0 := 0) (f := 24) (n := 0) (by decide), had23, adx_k (f0 := 57) (n0 := 0) (f := 24) (n := 0) (by decide), had22, adx_k (f0 := 56) (n0 := 0) (f := 24) (n := 0) (by decide), had21, adx_k (f0 := 47) (n0 := 0) (f := 24) (n := 0) (by decide), had20, adx_k (f0 := 46) (n0 := 0) (f := 24) (n := 0) (by decide), had19, adx_k (f0 := 45) (n0 := 0) (f := 24) (n := 0) (by decide), had18, adx_k (f0 := 44) (n0 := 0) (f := 24) (n := 0) (by decide), had17, adx_k (f0 := 43) (n0 := 0) (f := 24) (n := 0) (by decide), had16, adx_k (f0 := 42) (n0 := 0) (f := 24) (n := 0) (by decide), had15, adx_k (f0 := 40) (n0 := 0) (f := 24) (n := 0) (by decide), had14, adx_k (f0 := 39) (n0 := 0) (f := 24) (n := 0) (by decide), had13, adx_k (f0 := 38) (n0 := 0) (f := 24) (n := 0) (by decide), had12, adx_k (f0 := 37) (n0 := 0) (f := 24) (n := 0) (by decide), had11, adx_k (f0 := 36) (n0 := 0) (f := 24) (n := 0) (by decide), had10, adx_k (f0 := 35) (n0 := 0) (f := 24) (n := 0) (by decide), had9, adx_k (f0 := 34) (n0 := 0) (f := 24) (n := 0) (by decide), had8, adx_k (f0 := 33) (n0 := 0) (f := 24) (n := 0) (by decide), had7, adx_k (f0 := 32) (n0 := 0) (f := 24) (n := 0) (by decide), had6, adx_k (f0 := 31) (n0 := 0) (f := 24) (n := 0) (by decide), had5, adx_k (f0 := 26) (n0 := 0) (f := 24) (n := 0) (by decide), had4, adx_k (f0 := 25) (n0 := 0) (f := 24) (n := 0) (by decide), had3, adx_s]
  have hq4 : ad24 25 0 = q4 := by rw [had24, adx_k (f0 := 59) (n0 := 0) (f := 25) (n := 0) (by decide), had23, adx_k (f0 := 57) (n0 := 0) (f := 25) (n := 0) (by decide), had22, adx_k (f0 := 56) (n0 := 0) (f := 25) (n := 0) (by decide), had21, adx_k (f0 := 47) (n0 := 0) (f := 25) (n := 0) (by decide), had20, adx_k (f0 := 46) (n0 := 0) (f := 25) (n := 0) (by decide), had19, adx_k (f0 := 45) (n0 := 0) (f := 25) (n := 0) (by decide), had18, adx_k (f0 := 44) (n0 := 0) (f := 25) (n := 0) (by decide), had17, adx_k (f0 := 43) (n0 := 0) (f := 25) (n := 0) (by decide), had16, adx_k (f0 := 42) (n0 := 0) (f := 25) (n := 0) (by decide), had15, adx_k (f0 := 40) (n0 := 0) (f := 25) (n := 0) (by decide), had14, adx_k (f0 := 39) (n0 := 0) (f := 25) (n := 0) (by decide), had13, adx_k (f0 := 38) (n0 := 0) (f := 25) (n := 0) (by decide), had12, adx_k (f0 := 37) (n0 := 0) (f := 25) (n := 0) (by decide), had11, adx_k (f0 := 36) (n0 := 0) (f := 25) (n := 0) (by decide), had10, adx_k (f0 := 35) (n0 := 0) (f := 25) (n := 0) (by decide), had9, adx_k (f0 := 34) (n0 := 0) (f := 25) (n := 0) (by decide), had8, adx_k (f0 := 33) (n0 := 0) (f := 25) (n := 0) (by decide), had7, adx_k (f0 := 32) (n0 := 0) (f := 25) (n := 0) (by decide), had6, adx_k (f0 := 31) (n0 := 0) (f := 25) (n := 0) (by decide), had5, adx_k (f0 := 26) (n0 := 0) (f := 25) (n := 0) (by decide), had4, adx_s]
  have hq5 : ad24 26 0 = q5 := by rw [had24, adx_k (f0 := 59) (n0 := 0) (f := 26) (n := 0) (by decide), had23, adx_k (f0 := 57) (n0 := 0) (f := 26) (n := 0) (by decide), had22, adx_k (f0 := 56) (n0 := 0) (f := 26) (n := 0) (by decide), had21, adx_k (f0 := 47) (n0 := 0) (f := 26) (n := 0) (by decide), had20, adx_k (f0 := 46) (n0 := 0) (f := 26) (n := 0) (by decide), had19, adx_k (f0 := 45) (n0 := 0) (f := 26) (n := 0) (by decide), had18, adx_k (f0 := 44) (n0 := 0) (f := 26) (n := 0) (by decide), had17, adx_k (f0 := 43) (n0 := 0) (f := 26) (n := 0) (by decide), had16, adx_k (f0 := 42) (n0 := 0) (f := 26) (n := 0) (by decide), had15, adx_k (f0 := 40) (n0 := 0) (f := 26) (n := 0) (by decide), had14, adx_k (f0 := 39) (n0 := 0) (f := 26) (n := 0) (by decide), had13, adx_k (f0 := 38) (n0 := 0) (f := 26) (n := 0) (by decide), had12, adx_k (f0 := 37) (n0 := 0) (f := 26) (n := 0) (by decide), had11, adx_k (f0 := 36) (n0 := 0) (f := 26) (n := 0) (by decide), had10, adx_k (f0 := 35) (n0 := 0) (f := 26) (n := 0) (by decide), had9, adx_k (f0 := 34) (n0 := 0) (f := 26) (n := 0) (by decide), had8, adx_k (f0 := 33) (n0 := 0) (f := 26) (n := 0) (by decide), had7, adx_k (f0 := 32) (n0 := 0) (f := 26) (n := 0) (by decide), had6, adx_k (f0 := 31) (n0 := 0) (f := 26) (n := 0) (by decide), had5, adx_s]
  have hq6 : ad24 31 0 = q6 := by rw [had24, adx_k (f0 := 59) (n0 := 0) (f := 31) (n := 0) (by decide), had23, adx_k (f0 := 57) (n0 := 0) (f := 31) (n := 0) (by decide), had22, adx_k (f0 := 56) (n0 := 0) (f := 31) (n := 0) (by decide), had21, adx_k (f0 := 47) (n0 := 0) (f := 31) (n := 0) (by decide), had20, adx_k (f0 := 46) (n0 := 0) (f := 31) (n := 0) (by decide), had19, adx_k (f0 := 45) (n0 := 0) (f := 31) (n := 0) (by decide), had18, adx_k (f0 := 44) (n0 := 0) (f := 31) (n := 0) (by decide), had17, adx_k (f0 := 43) (n0 := 0) (f := 31) (n := 0) (by decide), had16, adx_k (f0 := 42) (n0 := 0) (f := 31) (n := 0) (by decide), had15, adx_k (f0 := 40) (n0 := 0) (f := 31) (n := 0) (by decide), had14, adx_k (f0 := 39) (n0 := 0) (f := 31) (n := 0) (by decide), had13, adx_k (f0 := 38) (n0 := 0) (f := 31) (n := 0) (by decide), had12, adx_k (f0 := 37) (n0 := 0) (f := 31) (n := 0) (by decide), had11, adx_k (f0 := 36) (n0 := 0) (f := 31) (n := 0) (by decide), had10, adx_k (f0 := 35) (n0 := 0) (f := 31) (n := 0) (by decide), had9, adx_k (f0 := 34) (n0 := 0) (f := 31) (n := 0) (by decide), had8, adx_k (f0 := 33) (n0 := 0) (f := 31) (n := 0) (by decide), had7, adx_k (f0 := 32) (n0 := 0) (f := 31) (n := 0) (by decide), had6, adx_s]
  have hq7 : ad24 32 0 = q7 := by rw [had24, adx_k (f0 := 59) (n0 := 0) (f := 32) (n := 0) (by decide), had23, adx_k (f0 := 57) (n0 := 0) (f := 32) (n := 0) (by decide), had22, adx_k (f0 := 56) (n0 := 0) (f := 32) (n := 0) (by decide), had21, adx_k (f0 := 47) (n0 := 0) (f := 32) (n := 0) (by decide), had20, adx_k (f0 := 46) (n0 := 0) (f := 32) (n := 0) (by decide), had19, adx_k (f0 := 45) (n0 := 0) (f := 32) (n := 0) (by decide), had18, adx_k (f0 := 44) (n0 := 0) (f := 32) (n := 0) (by decide), had17, adx_k (f0 := 43) (n0 := 0) (f := 32) (n := 0) (by decide), had16, adx_k (f0 := 42) (n0 := 0) (f := 32) (n := 0) (by decide), had15, adx_k (f0 := 40) (n0 := 0) (f := 32) (n := 0) (by decide), had14, adx_k (f0 := 39) (n0 := 0) (f := 32) (n := 0) (by decide), had13, adx_k (f0 := 38) (n0 := 0) (f := 32) (n := 0) (by decide), had12, adx_k (f0 := 37) (n0 := 0) (f := 32) (n := 0) (by decide), had11, adx_k (f0 := 36) (n0 := 0) (f := 32) (n := 0) (by decide), had10, adx_k (f0 := 35) (n0 := 0) (f := 32) (n := 0) (by decide), had9, adx_k (f0 := 34) (n0 := 0) (f := 32) (n := 0) (by decide), had8, adx_k (f0 := 33) (n0 := 0) (f := 32) (n := 0) (by decide), had7, adx_s]
  have hq8 : ad24 33 0 = q8 := by rw [had24, adx_k (f0 := 59) (n0 := 0) (f := 33) (n := 0) (by decide), had23, adx_k (f0 := 57) (n0 := 0) (f := 33) (n := 0) (by decide), had22, adx_k (f0 := 56) (n0 := 0) (f := 33) (n := 0) (by decide), had21, adx_k (f0 := 47) (n0 := 0) (f := 33) (n := 0) (by decide), had20, adx_k (f0 := 46) (n0 := 0) (f := 33) (n := 0) (by decide), had19, adx_k (f0 := 45) (n0 := 0) (f := 33) (n := 0) (by decide), had18, adx_k (f0 := 44) (n0 := 0) (f := 33) (n := 0) (by decide), had17, adx_k (f0 := 43) (n0 := 0) (f := 33) (n := 0) (by decide), had16, adx_k (f0 := 42) (n0 := 0) (f := 33) (n := 0) (by decide), had15, adx_k (f0 := 40) (n0 := 0) (f := 33) (n := 0) (by decide), had14, adx_k (f0 := 39) (n0 := 0) (f := 33) (n := 0) (by decide), had13, adx_k (f0 := 38) (n0 := 0) (f := 33) (n := 0) (by decide), had12, adx_k (f0 := 37) (n0 := 0) (f := 33) (n := 0) (by decide), had11, adx_k (f0 := 36) (n0 := 0) (f := 33) (n := 0) (by decide), had10, adx_k (f0 := 35) (n0 := 0) (f := 33) (n := 0) (by decide), had9, adx_k (f0 := 34) (n0 := 0) (f := 33) (n := 0) (by decide), had8, adx_s]
  have hq9 : ad24 34 0 = q9 := by rw [had24, adx_k (f0 := 59) (n0 := 0) (f := 34) (n := 0) (by decide), had23, adx_k (f0 := 57) (n0 := 0) (f := 34) (n := 0) (by decide), had22, adx_k (f0 := 56) (n0 := 0) (f := 34) (n := 0) (by decide), had21, adx_k (f0 := 47) (n0 := 0) (f := 34) (n := 0) (by decide), had20, adx_k (f0 := 46) (n0 := 0) (f := 34) (n := 0) (by decide), had19, adx_k (f0 := 45) (n0 := 0) (f := 34) (n := 0) (by decide), had18, adx_k (f0 := 44) (n0 := 0) (f := 34) (n := 0) (by decide), had17, adx_k (f0 := 43) (n0 := 0) (f := 34) (n := 0) (by decide), had16, adx_k (f0 := 42) (n0 := 0) (f := 34) (n := 0) (by decide), had15, adx_k (f0 := 40) (n0 := 0) (f := 34) (n := 0) (by decide), had14, adx_k (f0 := 39) (n0 := 0) (f := 34) (n := 0) (by decide), had13, adx_k (f0 := 38) (n0 := 0) (f := 34) (n := 0) (by decide), had12, adx_k (f0 := 37) (n0 := 0) (f := 34) (n := 0) (by decide), had11, adx_k (f0 := 36) (n0 := 0) (f := 34) (n := 0) (by decide), had10, adx_k (f0 := 35) (n0 := 0) (f := 34) (n := 0) (by decide), had9, adx_s]
  have hq10 : ad24 35 0 = q10 := by rw [had24, adx_k (f0 := 59) (n0 := 0) (f := 35) (n := 0) (by decide), had23, adx_k (f0 := 57) (n0 := 0) (f := 35) (n := 0) (by decide), had22, adx_k (f0 := 56) (n0 := 0) (f := 35) (n := 0) (by decide), had21, adx_k (f0 := 47) (n0 := 0) (f := 35) (n := 0) (by decide), had20, adx_k (f0 := 46) (n0 := 0) (f := 35) (n := 0) (by decide), had19, adx_k (f0 := 45) (n0 := 0) (f := 35) (n := 0) (by decide), had18, adx_k (f0 := 44) (n0 := 0) (f := 35) (n := 0) (by decide), had17, adx_k (f0 := 43) (n0 := 0) (f := 35) (n := 0) (by decide), had16, adx_k (f0 := 42) (n0 := 0) (f := 35) (n := 0) (by decide), had15, adx_k (f0 := 40) (n0 := 0) (f := 35) (n := 0) (by decide), had14, adx_k (f0 := 39) (n0 := 0) (f := 35) (n := 0) (by decide), had13, adx_k (f0 := 38) (n0 := 0) (f := 35) (n := 0) (by decide), had12, adx_k (f0 := 37) (n0 := 0) (f := 35) (n := 0) (by decide), had11, adx_k (f0 := 36) (n0 := 0) (f := 35) (n := 0) (by decide), had10, adx_s]
  have hq11 : ad24 36 0 = q11 := by rw [had24, adx_k (f0 := 59) (n0 := 0) (f := 36) (n := 0) (by decide), had23, adx_k (f0 := 57) (n0 := 0) (f := 36) (n := 0) (by decide), had22, adx_k (f0 := 56) (n0 := 0) (f := 36) (n := 0) (by decide), had21, adx_k (f0 := 47) (n0 := 0) (f := 36) (n := 0) (by decide), had20, adx_k (f0 := 46) (n0 := 0) (f := 36) (n := 0) (by decide), had19, adx_k (f0 := 45) (n0 := 0) (f := 36) (n := 0) (by decide), had18, adx_k (f0 := 44) (n0 := 0) (f := 36) (n := 0) (by decide), had17, adx_k (f0 := 43) (n0 := 0) (f := 36) (n := 0) (by decide), had16, adx_k (f0 := 42) (n0 := 0) (f := 36) (n := 0) (by decide), had15, adx_k (f0 := 40) (n0 := 0) (f := 36) (n := 0) (by decide), had14, adx_k (f0 := 39) (n0 := 0) (f := 36) (n := 0) (by decide), had13, adx_k (f0 := 38) (n0 := 0) (f := 36) (n := 0) (by decide), had12, adx_k (f0 := 37) (n0 := 0) (f := 36) (n := 0) (by decide), had11, adx_s]
  have hq12 : ad24 37 0 = q12 := by rw [had24, adx_k (f0 := 59) (n0 := 0) (f := 37) (n := 0) (by decide), had23, adx_k (f0 := 57) (n0 := 0) (f := 37) (n := 0) (by decide), had22, adx_k (f0 := 56) (n0 := 0) (f := 37) (n := 0) (by decide), had21, adx_k (f0 := 47) (n0 := 0) (f := 37) (n := 0) (by decide), had20, adx_k (f0 := 46) (n0 := 0) (f := 37) (n := 0) (by decide), had19, adx_k (f0 := 45) (n0 := 0) (f := 37) (n := 0) (by decide), had18, adx_k (f0 := 44) (n0 := 0) (f := 37) (n := 0) (by decide), had17, adx_k (f0 := 43) (n0 := 0) (f := 37) (n := 0) (by decide), had16, adx_k (f0 := 42) (n0 := 0) (f := 37) (n := 0) (by decide), had15, adx_k (f0 := 40) (n0 := 0) (f := 37) (n := 0) (by decide), had14, adx_k (f0 := 39) (n0 := 0) (f := 37) (n := 0) (by decide), had13, adx_k (f0 := 38) (n0 := 0) (f := 37) (n := 0) (by decide), had12, adx_s]
  have hq13 : ad24 38 0 = q13 := by rw [had24, adx_k (f0 := 59) (n0 := 0) (f := 38) (n := 0) (by decide), had23, adx_k (f0 := 57) (n0 := 0) (f := 38) (n := 0) (by decide), had22, adx_k (f0 := 56) (n0 := 0) (f := 38) (n := 0) (by decide), had21, adx_k (f0 := 47) (n0 := 0) (f := 38) (n := 0) (by decide), had20, adx_k (f0 := 46) (n0 := 0) (f := 38) (n := 0) (by decide), had19, adx_k (f0 := 45) (n0 := 0) (f := 38) (n := 0) (by decide), had18, adx_k (f0 := 44) (n0 := 0) (f := 38) (n := 0) (by decide), had17, adx_k (f0 := 43) (n0 := 0) (f := 38) (n := 0) (by decide), had16, adx_k (f0 := 42) (n0 := 0) (f := 38) (n := 0) (by decide), had15, adx_k (f0 := 40) (n0 := 0) (f := 38) (n := 0) (by decide), had14, adx_k (f0 := 39) (n0 := 0) (f := 38) (n := 0) (by decide), had13, adx_s]
  have hq14 : ad24 39 0 = q14 := by rw [had24, adx_k (f0 := 59) (n0 := 0) (f := 39) (n := 0) (by decide), had23, adx_k (f0 := 57) (n0 := 0) (f := 39) (n := 0) (by decide), had22, adx_k (f0 := 56) (n0 := 0) (f := 39) (n := 0) (by decide), had21, adx_k (f0 := 47) (n0 := 0) (f := 39) (n := 0) (by decide), had20, adx_k (f0 := 46) (n0 := 0) (f := 39) (n := 0) (by decide), had19, adx_k (f0 := 45) (n0 := 0) (f := 39) (n := 0) (by decide), had18, adx_k (f0 := 44) (n0 := 0) (f := 39) (n := 0) (by decide), had17, adx_k (f0 := 43) (n0 := 0) (f := 39) (n := 0) (by decide), had16, adx_k (f0 := 42) (n0 := 0) (f := 39) (n := 0) (by decide), had15, adx_k (f0 := 40) (n0 := 0) (f := 39) (n := 0) (by decide), had14, adx_s]
  have hq15 : ad24 40 0 = q15 := by rw [had24, adx_k (f0 := 59) (n0 := 0) (f := 40) (n := 0) (by decide), had23, adx_k (f0 := 57) (n0 := 0) (f := 40) (n := 0) (by decide), had22, adx_k (f0 := 56) (n0 := 0) (f := 40) (n := 0) (by decide), had21, adx_k (f0 := 47) (n0 := 0) (f := 40) (n := 0) (by decide), had20, adx_k (f0 := 46) (n0 := 0) (f := 40) (n := 0) (by decide), had19, adx_k (f0 := 45) (n0 := 0) (f := 40) (n := 0) (by decide), had18, adx_k (f0 := 44) (n0 := 0) (f := 40) (n := 0) (by decide), had17, adx_k (f0 := 43) (n0 := 0) (f := 40) (n := 0) (by decide), had16, adx_k (f0 := 42) (n0 := 0) (f := 40) (n := 0) (by decide), had15, adx_s]
  have hq16 : ad24 42 0 = q16 := by rw [had24, adx_k (f0 := 59) (n0 := 0) (f := 42) (n := 0) (by decide), had23, adx_k (f0 := 57) (n0 := 0) (f := 42) (n := 0) (by decide), had22, adx_k (f0 := 56) (n0 := 0) (f := 42) (n := 0) (by decide), had21, adx_k (f0 := 47) (n0 := 0) (f := 42) (n := 0) (by decide), had20, adx_k (f0 := 46) (n0 := 0) (f := 42) (n := 0) (by decide), had19, adx_k (f0 := 45) (n0 := 0) (f := 42) (n := 0) (by decide), had18, adx_k (f0 := 44) (n0 := 0) (f := 42) (n := 0) (by decide), had17, adx_k (f0 := 43) (n0 := 0) (f := 42) (n := 0) (by decide), had16, adx_s]
  have hq17 : ad24 43 0 = q17 := by rw [had24, adx_k (f0 := 59) (n0 := 0) (f := 43) (n := 0) (by decide), had23, adx_k (f0 := 57) (n0 := 0) (f := 43) (n := 0) (by decide), had22, adx_k (f0 := 56) (n0 := 0) (f := 43) (n := 0) (by decide), had21, adx_k (f0 := 47) (n0 := 0) (f := 43) (n := 0) (by decide), had20, adx_k (f0 := 46) (n0 := 0) (f := 43) (n := 0) (by decide), had19, adx_k (f0 := 45) (n0 := 0) (f := 43) (n := 0) (by decide), had18, adx_k (f0 := 44) (n0 := 0) (f := 43) (n := 0) (by decide), had17, adx_s]
  have hq18 : ad24 44 0 = q18 := by rw [had24, adx_k (f0 := 59) (n0 := 0) (f := 44) (n := 0) (by decide), had23, adx_k (f0 := 57) (n0 := 0) (f := 44) (n := 0) (by decide), had22, adx_k (f0 := 56) (n0 := 0) (f := 44) (n := 0) (by decide), had21, adx_k (f0 := 47) (n0 := 0) (f := 44) (n := 0) (by decide), had20, adx_k (f0 := 46) (n0 := 0) (f := 44) (n := 0) (by decide), had19, adx_k (f0 := 45) (n0 := 0) (f := 44) (n := 0) (by decide), had18, adx_s]
  have hq19 : ad24 45 0 = q19 := by rw [had24, adx_k (f0 := 59) (n0 := 0) (f := 45) (n := 0) (by decide), had23, adx_k (f0 := 57) (n0 := 0) (f := 45) (n := 0) (by decide), had22, adx_k (f0 := 56) (n0 := 0) (f := 45) (n := 0) (by decide), had21, adx_k (f0 := 47) (n0 := 0) (f := 45) (n := 0) (by decide), had20, adx_k (f0 := 46) (n0 := 0) (f := 45) (n := 0) (by decide), had19, adx_s]
  have hq20 : ad24 46 0 = q20 := by rw [had24, adx_k (f0 := 59) (n0 := 0) (f := 46) (n := 0) (by decide), had23, adx_k (f0 := 57) (n0 := 0) (f := 46) (n := 0) (by decide), had22, adx_k (f0 := 56) (n0 := 0) (f := 46) (n := 0) (by decide), had21, adx_k (f0 := 47) (n0 := 0) (f := 46) (n := 0) (by decide), had20, adx_s]
  have hq21 : ad24 47 0 = q21 := by rw [had24, adx_k (f0 := 59) (n0 := 0) (f := 47) (n := 0) (by decide), had23, adx_k (f0 := 57) (n0 := 0) (f := 47) (n := 0) (by decide), had22, adx_k (f0 := 56) (n0 := 0) (f := 47) (n := 0) (by decide), had21, adx_s]
  have hq22 : ad24 56 0 = q22 := by rw [had24, adx_k (f0 := 59) (n0 := 0) (f := 56) (n := 0) (by decide), had23, adx_k (f0 := 57) (n0 := 0) (f := 56) (n := 0) (by decide), had22, adx_s]
  have hq23 : ad24 57 0 = q23 := by rw [had24, adx_k (f0 := 59) (n0 := 0) (f := 57) (n := 0) (by decide), had23, adx_s]
  have hq24 : ad24 59 0 = q24 := by rw [had24, adx_s]
  have hv : ∀ k, k < 39 → vp_V [.int 0, .ref q1, .ref q2, .ref q3, .ref q4, .ref q5, .int (-1), .int 0, .int (-1), .int 0, .ref q6, .ref q7, .ref q8, .ref q9, .ref q10, .ref q11, .ref q12, .ref q13, .ref q14, .ref q15, .int 0, .ref q16, .ref q17, .ref q18, .ref q19, .ref q20, .ref q21, .int (-1), .int 0, .int 0, .int 0, .int 0, .int 0, .int 0, .int 0, .ref q22, .ref q23, .int 0, .ref q24] k = s_fv (adx ad24 20 0 h0) (upO (fun _ _ _ => 0) 20 0 [0, 0, 0, 0, 0, 0, -1, 0, -1, 0, 0, 0, 0, 0, 0, 0, 0, 0, 0, 0, 0, 0, 0, 0, 0, 0, 0, -1, 0, 0, 0, 0, 0, 0, 0, 0, 0, 0, 0]) 20 0 k := by
    intro k hk
    rcases (show k = 0 ∨ k = 1 ∨ k = 2 ∨ k = 3 ∨ k = 4 ∨ k = 5 ∨ k = 6 ∨ k = 7 ∨ k = 8 ∨ k = 9 ∨ k = 10 ∨ k = 11 ∨ k = 12 ∨ k = 13 ∨ k = 14 ∨ k = 15 ∨ k = 16 ∨ k = 17 ∨ k = 18 ∨ k = 19 ∨ k = 20 ∨ k = 21 ∨ k = 22 ∨ k = 23 ∨ k = 24 ∨ k = 25 ∨ k = 26 ∨ k = 27 ∨ k = 28 ∨ k = 29 ∨ k = 30 ∨ k = 31 ∨ k = 32 ∨ k = 33 ∨ k = 34 ∨ k = 35 ∨ k = 36 ∨ k = 37 ∨ k = 38 by omega) with rfl | rfl | rfl | rfl | rfl | rfl | rfl | rfl | rfl | rfl | rfl | rfl | rfl | rfl | rfl | rfl | rfl | rfl | rfl | rfl | rfl | rfl | rfl | rfl | rfl | rfl | rfl | rfl | rfl | rfl | rfl | rfl | rfl | rfl | rfl | rfl | rfl | rfl | rfl
    · rfl
    · exact congrArg Value.ref hq1.symm
    · exact congrArg Value.ref hq2.symm
    · exact congrArg Value.ref hq3.symm
    · exact congrArg Value.ref hq4.symm
    · exact congrArg Value.ref hq5.symm
    · rfl
    · rfl
    · rfl
    · rfl
    · exact congrArg Value.ref hq6.symm
    · exact congrArg Value.ref hq7.symm
    · exact congrArg Value.ref hq8.symm
    · exact congrArg Value.ref hq9.symm
    · exact congrArg Value.ref hq10.symm
    · exact congrArg Value.ref hq11.symm
    · exact congrArg Value.ref hq12.symm
    · exact congrArg Value.ref hq13.symm
    · exact congrArg Value.ref hq14.symm
    · exact congrArg Value.ref hq15.symm
    · rfl
    · exact congrArg Value.ref hq16.symm
    · exact congrArg Value.ref hq17.symm
    · exact congrArg Value.ref hq18.symm
    · exact congrArg Value.ref hq19.symm
    · exact congrArg Value.ref hq20.symm
    · exact congrArg Value.ref hq21.symm
    · rfl
    · rfl
    · rfl
    · rfl
    · rfl
    · rfl
    · rfl
    · rfl
    · exact congrArg Value.ref hq22.symm
    · exact congrArg Value.ref hq23.symm
    · rfl
    · exact congrArg Value.ref hq24.symm
  have hC := c_abs hC 20 0 (fun h => absurd h.1 (by decide)) (upO (fun _ _ _ => 0) 20 0 [0, 0, 0, 0, 0, 0, -1, 0, -1, 0, 0, 0, 0, 0, 0, 0, 0, 0, 0, 0, 0, 0, 0, 0, 0, 0, 0, -1, 0, 0, 0, 0, 0, 0, 0, 0, 0, 0, 0]) (fun _ _ _ => 0) (fun _ _ => none) (fun f n k h => upO_n (fun z => by have h9 := h.1; rw [z.1] at h9; exact absurd h9 (by decide))) (fun _ _ _ _ => rfl) (fun _ _ _ _ => rfl) (c_cell (f0 := 20) (n0 := 0) (hC.2.2.1 _ List.mem_cons_self).1 ⟨rfl, rfl, rfl, rfl⟩ adx_s hv) (fun _ k hk h => ⟨fr20 k hk h, rfl⟩) (fun h => absurd h (by decide))
  rw [xL_c] at hC
  obtain ⟨ad, had⟩ : ∃ z : Nat → Nat → Nat, z = adx ad24 20 0 h0 := ⟨_, rfl⟩
  rw [← had] at hC
  have h20 : ad 20 0 = h0 := by rw [had]; exact adx_s
  have hB := hC.1
  clear had hC hv
  refine lv_iconst (v := 0) hx hb d7_init_213 (by decide) ?_
  refine lv_istore_n (lv' := [(1, .int 0), (0, .ref h0)]) hx hb d7_init_214 rfl hl (by decide) rfl (fun ls hl => ?_)
  rw [← h20] at hl
  exact k7_init_215 hx hb hr hw hown hK hlocks h20 65 0 (by omega) (by omega) hB (fun f n i => by rw [if_neg (by omega)]) (lv_sub hl [1, 0] rfl)
theorem hd7_init : y7_init.cls ≠ "java/lang/invoke/MethodHandle" ∧ y7_init.cls ≠ "java/lang/invoke/VarHandle" ∧ (parseMethodDescriptor y7_init.desc).map (fun d => d.parameters.length) = some 0 := ⟨by decide, by decide, by decide +kernel⟩
