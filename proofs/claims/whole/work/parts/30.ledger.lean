/-! int[2][1800]: an outer row and two inner ones come -/
theorem oc_out (c : ClassId) (N h0 : Nat) : ∀ i : Nat, Jvm.Free.Multi.outerC c N h0 i = arrV c N (fun j => va_rf (if j < i then some (h0 + 1 + j) else none))
  | 0 => by
    show ({ cls := c, slots := Array.replicate N .null, vm := .none } : Cell) = _
    rw [arrV_new]
    exact arrV_ext (fun j _ => by simp [va_rf])
  | i + 1 => by
    show (Jvm.Free.Multi.outerC c N h0 i).setSlot i (.ref (h0 + 1 + i)) = _
    rw [oc_out c N h0 i, arrV_store]
    refine arrV_ext (fun j _ => ?_)
    by_cases e : j = i
    · subst e
      simp [updV, va_rf]
    · by_cases h : j < i
      · simp [updV, e, h, Nat.lt_succ_of_lt h]
      · simp [updV, e, h, show ¬ j < i + 1 by omega]
theorem cr_mna {p : Program} {l : Launch} {e : Env} {R : Room} {s : State} {m : MethodId} {args : Array Value} {below : List Frame} {meth : Method} {c : Code} {H : Heap} {locs : List Loc} {cells slots : Nat} {Q : State → Prop} {cc : ByteArray} {pc : Nat} {ls : Array Slot} {rest : List Value} {D : va_G} {aC : Nat → ClassId} {ad : Nat → Nat → Nat} {X : Nat → Nat → Prop} {Z : Nat → Prop} {S A : sS} {G : sG} {H0 : Heap} {ws : va_W} (hexec : p.tables.exec = Jvm.exec) (hb : c.code = cc) {own : String} {index : Nat} (hown : s.vm.findClass own = some m.cls) (hclink : (Cond.classLink own index ("[" ++ (FieldType.array .int).toString)).before args s = true) (hover : (Cond.arrayOver (.array .int)).before args s = true) (harr : (Cond.arrayClass .int).before args s = true) (hK : va_K D cls (tyl aC) s) (hC : c_B D aC ad X Z S A G ws H0 H locs) (hZn : ∀ q, H0.size ≤ q → Z q) (hcells : cells + (1 + 2) ≤ R.cells) (hslots : slots + (2 + 2 * 1800) ≤ R.slots) (hdg : decode cc pc = .ok (.multianewarray index 2, 4))
    (kk : ∀ (q : Nat) (H1 : Heap), q = H.size → c_B D aC ad X Z S A G ((q, .inl (aC 6, 2, .inr (.inr (.inr (.inr (fun i => if i < 2 then some (q + 1 + i) else none)))))) :: (q + 1, .inl (aC 0, 1800, .inl (fun _ => 0))) :: (q + 2, .inl (aC 0, 1800, .inl (fun _ => 0))) :: ws) H0 H1 locs → W p l e R s m args below meth c H1 locs (cells + 1 + 2) (slots + 2 + 2 * 1800) Q (F0 m (pc + 4) ls (.ref q :: rest))) : W p l e R s m args below meth c H locs cells slots Q (F0 m pc ls (.int 1800 :: .int 2 :: rest)) := by
  intro T hT Xs
  obtain ⟨vm₁, cA, comp, -, fA, fC, hO, -, X', step⟩ := Xs.multianewarray2F hexec hown hclink hover harr (g := F0 m pc ls (.int 1800 :: .int 2 :: rest)) rfl (by rw [hb]; exact hdg) rfl (n := 2) (k := 1800) (by decide) (by decide) (by decide) (by decide) (by decide) rfl rfl hcells hslots
  have ec : comp = aC 0 := Option.some.inj (fC.symm.trans (hK.2 0 _ rfl).2)
  have eA : cA = aC 6 := Option.some.inj (fA.symm.trans (hK.2 6 _ rfl).2)
  subst ec eA
  generalize hF : Jvm.Free.Multi.fill (T.setVm vm₁) (aC 6) (aC 0) (2 : Int32).toNatClampNeg (1800 : Int32).toNatClampNeg (defaultValue .int) (2 : Int32).toNatClampNeg = F at X' step
  have hTh : (T.setVm vm₁).heap = H := hT
  obtain ⟨f1, f2, -, -⟩ := Jvm.Free.Multi.fill_facts (T.setVm vm₁) (aC 6) (aC 0) (2 : Int32).toNatClampNeg (1800 : Int32).toNatClampNeg (defaultValue .int) (2 : Int32).toNatClampNeg
  rw [hF, hTh] at f1 f2
  have hold : ∀ x : Nat, x < H.size → F.heap[x]? = H[x]? := fun x hx => by
    have := Jvm.Free.Multi.fill_old (T.setVm vm₁) (aC 6) (aC 0) (2 : Int32).toNatClampNeg (1800 : Int32).toNatClampNeg (defaultValue .int) (a := x) (by rw [hTh]; exact hx) (2 : Int32).toNatClampNeg
    rw [hF, hTh] at this
    exact this
  have hin : ∀ c9 : ClassId, Jvm.Free.Multi.innerC c9 (1800 : Int32).toNatClampNeg (defaultValue .int) = vp_cell c9 (1800, .inl (fun _ => 0)) := fun c9 => by
    rw [vp_cell_i]
    exact arrV_new c9 1800 (.int 0)
  have hrow : ∀ j : Nat, j < 2 → F.heap[H.size + 1 + j]? = some (vp_cell (aC 0) (1800, .inl (fun _ => 0))) := fun j hj => by
    have := Jvm.Free.Multi.fill_inner (T.setVm vm₁) (aC 6) (aC 0) (2 : Int32).toNatClampNeg (1800 : Int32).toNatClampNeg (defaultValue .int) (2 : Int32).toNatClampNeg j hj
    rw [hF, hTh, hin] at this
    exact this
  have f2' : F.heap[H.size]? = some (vp_cell (aC 6) (2, .inr (.inr (.inr (.inr (fun i => if i < 2 then some (H.size + 1 + i) else none)))))) := by
    rw [vp_cell_q, f2]
    exact congrArg some (oc_out (aC 6) 2 H.size 2)
  have f1' : F.heap.size = H.size + 3 := by rw [f1]; show H.size + 1 + 2 = H.size + 3; omega
  have hG := c_grow hC (H1 := F.heap) (by omega) hold
  obtain ⟨⟨hJ, hP, hV, hZ⟩, hL, hw, hnd⟩ := hC
  have fresh : ∀ q : Nat, H.size ≤ q → Z q ∧ ¬ s_N ad X q := fun q hq => ⟨hZn q (Nat.le_trans hV.1 hq), fun z => by
    obtain ⟨f, n, h, ez⟩ := z
    have := (hP f n h).lt
    omega⟩
  have ws_lt : ∀ x ∈ ws, x.1 < H.size := fun x hx => (hw x hx).1.lt
  have hC1 : c_B D aC ad X Z S A G ((H.size, .inl (aC 6, 2, .inr (.inr (.inr (.inr (fun i => if i < 2 then some (H.size + 1 + i) else none)))))) :: (H.size + 1, .inl (aC 0, 1800, .inl (fun _ => 0))) :: (H.size + 2, .inl (aC 0, 1800, .inl (fun _ => 0))) :: ws) H0 F.heap locs := by
    refine ⟨hG.1, hG.2.1, fun q hq => ?_, ?_⟩
    · rcases List.mem_cons.mp hq with rfl | hq
      · exact ⟨f2', (fresh _ (Nat.le_refl _)).1, (fresh _ (Nat.le_refl _)).2⟩
      · rcases List.mem_cons.mp hq with rfl | hq
        · exact ⟨hrow 0 (by omega), (fresh (H.size + 1) (by omega)).1, (fresh (H.size + 1) (by omega)).2⟩
        · rcases List.mem_cons.mp hq with rfl | hq
          · exact ⟨hrow 1 (by omega), (fresh (H.size + 2) (by omega)).1, (fresh (H.size + 2) (by omega)).2⟩
          · exact hG.2.2.1 q hq
    · have hno : ∀ k : Nat, H.size ≤ k → k ∉ ws.map (fun q => q.1) := fun k hk z => by
        obtain ⟨x, hx, ex⟩ := List.mem_map.mp z
        have := ws_lt x hx
        have ex : x.1 = k := ex
        omega
      simp only [List.map_cons, List.nodup_cons, List.mem_cons, not_or]
      exact ⟨⟨by omega, by omega, hno _ (Nat.le_refl _)⟩, ⟨by omega, hno _ (by omega)⟩, hno _ (by omega), hnd⟩
  obtain ⟨t, a1, b1⟩ := kk H.size F.heap rfl hC1 F rfl X'
  refine ⟨t, step t ?_, b1⟩
  have e9 : T.heap.size = H.size := by rw [hT]
  rw [e9]
  exact a1
set_option maxRecDepth 100000 in
set_option maxHeartbeats 4000000 in
theorem m2_init {l : Launch} {D : va_G} {aC : Nat → ClassId} (h0 sz : Nat) : Met l y2_init (.code y2_init b2_init 1 none :: wall) { frames := 1, cells := 4, slots := 3604, locals := 40 } (c_Pc D aC [.ref h0] h0 (.inr (2, [.null, .int 0, .null])) sz (fun U => (Cond.arrayOver (.array .int)).before #[] U = true)) (c_Q D (fun w1 => ∃ q1 q2, w1 = [(h0, .inr (2, [.ref q1, .int 0, .ref q2])), (q1, .inl (aC 1, 2, .inl (fun _ => 0))), (q2, .inl (aC 6, 2, .inr (.inr (.inr (.inr (fun i => if i < 2 then some (q2 + 1 + i) else none)))))), (q2 + 1, .inl (aC 0, 1800, .inl (fun _ => 0))), (q2 + 2, .inl (aC 0, 1800, .inl (fun _ => 0)))]) h0 sz) 4 3604 (fun q => q = h0 ∨ sz ≤ q) := by
  refine Met.ofW (cc := b2_init) (maxL := 1) (ret := none) (by decide) rfl ?_
  intro p e s m args below meth c s₁ B hml hv
  obtain ⟨rfl, rfl, hat, hK, hE⟩ := hv
  have hx := B.exec
  have hb := B.bytes
  have hr := B.returns
  have hlocks := B.notSynchronized
  have hw : ∀ w ∈ wall, w.before _ s = true := fun w h => atoms_spec (ws := .code y2_init b2_init 1 none :: wall) B.pre w (List.mem_cons_of_mem _ h)
  have hown : s.vm.findClass R2 = some m.cls := findClass_of_methodNamed B.named
  have hin : meth.name = "<init>" := (name_of_methodNamed B.named B.method).1
  have hC := c_start (D := D) (aC := aC) hat
  have hZn : ∀ q, s.heap.size ≤ q → (fun q => q = h0 ∨ s.heap.size ≤ q) q := fun q h => Or.inr h
  have hl := lv_entry [.ref h0] (n := 1) (Nat.le_of_ble_eq_true rfl)
  rw [lg_entry_eq]
  generalize (lg_sl [.ref h0] ++ List.replicate (1 - (lg_sl [.ref h0]).length) Slot.unset).toArray = ls at hl ⊢
  have hl : lv_has ls 1 [(0, .ref h0)] := hl
  refine lv_aload_n hx hb d2_init_0 rfl (lv_at hl 0 rfl) ?_
  refine W.objInit hx hb hown (hw _ ml_2_3) (hw _ im_O_init) (hw _ cd_O_init) rfl (by rw [hml]; exact hl.1) rfl d2_init_1 (Nat.le_of_ble_eq_true rfl) (Nat.le_of_ble_eq_true rfl) ?_
  refine W.eq (g2 := F0 m 4 ls []) rfl ?_
  refine lv_aload_n hx hb d2_init_4 rfl (lv_at hl 0 rfl) ?_
  refine lv_iconst (v := 2) hx hb d2_init_5 (by decide) ?_
  refine cr_newa (atype := .boolean) (ty := .boolean) (t0 := 1) (N := 2) hx hb rfl (hw _ ac_boolean) hK hC hZn rfl (hK.2 1 _ rfl).2 rfl (by decide) (by decide) (by decide) (by decide) (by decide) d2_init_6 (fun q1 H e1 hC => ?_)
  have hC := c_swap hC
  refine W.widen (k := 1) (n := 2) (by omega) (by omega) ?_
  refine cr_put (v := .ref q1) hx hb hw hown hK hC 0 rfl us2 tk2 nm2 (by decide) fl_2_11 (Or.inr ⟨rfl, hin, rfl⟩) rfl rfl (Nat.le_of_ble_eq_true rfl) d2_init_8 (fun H locs hC => ?_)
  refine lv_aload_n hx hb d2_init_11 rfl (lv_at hl 0 rfl) ?_
  refine lv_iconst (v := 0) hx hb d2_init_12 (by decide) ?_
  refine cr_put (v := .int 0) hx hb hw hown hK hC 1 rfl us2 tk2 nm2 (by decide) fl_2_15 (Or.inl rfl) rfl rfl (Nat.le_of_ble_eq_true rfl) d2_init_13 (fun H locs hC => ?_)
  refine lv_aload_n hx hb d2_init_16 rfl (lv_at hl 0 rfl) ?_
  refine lv_iconst (v := 2) hx hb d2_init_17 (by decide) ?_
  refine lv_sipush (v := 1800) hx hb d2_init_18 (by decide) ?_
  refine cr_mna hx hb hown (hw _ cl_2_19) hE (hw _ ac_int) hK hC hZn (by decide) (by decide) d2_init_21 (fun q2 H e2 hC => ?_)
  have hC : c_B D aC (fun _ _ => 0) (fun _ _ => False) (fun q => q = h0 ∨ s.heap.size ≤ q) (fun _ _ _ => 0) (fun _ _ _ => 0) (fun _ _ => none) [(h0, .inr (2, [.ref q1, .int 0, .null])), (q2, .inl (aC 6, 2, .inr (.inr (.inr (.inr (fun i => if i < 2 then some (q2 + 1 + i) else none)))))), (q2 + 1, .inl (aC 0, 1800, .inl (fun _ => 0))), (q2 + 2, .inl (aC 0, 1800, .inl (fun _ => 0))), (q1, .inl (aC 1, 2, .inl (fun _ => 0)))] s.heap H locs := by
    obtain ⟨h1, h2, h3, h4⟩ := hC
    refine ⟨h1, h2, fun q hq => h3 q (by simp only [List.mem_cons] at hq ⊢; rcases hq with a | a | a | a | a | a <;> simp [a]), ?_⟩
    simp only [List.map_cons, List.set_cons_zero, List.set_cons_succ, List.nodup_cons, List.mem_cons, not_or] at h4 ⊢
    obtain ⟨⟨a1, a2, a3, a4, a5⟩, ⟨b1, b2, b3, b4⟩, ⟨c1, c2, c3⟩, ⟨d1, d2⟩, r⟩ := h4
    exact ⟨⟨fun z => a3 z.symm, fun z => b2 z.symm, fun z => c1 z.symm, d1, d2⟩, ⟨a1, a2, a4, a5⟩, ⟨b1, b3, b4⟩, ⟨c2, c3⟩, r⟩
  refine W.widen (k := 4) (n := 3604) (by omega) (by omega) ?_
  refine cr_put (v := .ref q2) hx hb hw hown hK hC 2 rfl us2 tk2 nm2 (by decide) fl_2_21 (Or.inr ⟨rfl, hin, rfl⟩) rfl rfl (Nat.le_of_ble_eq_true rfl) d2_init_25 (fun H locs hC => ?_)
  have hC : c_B D aC (fun _ _ => 0) (fun _ _ => False) (fun q => q = h0 ∨ s.heap.size ≤ q) (fun _ _ _ => 0) (fun _ _ _ => 0) (fun _ _ => none) [(h0, .inr (2, [.ref q1, .int 0, .ref q2])), (q2, .inl (aC 6, 2, .inr (.inr (.inr (.inr (fun i => if i < 2 then some (q2 + 1 + i) else none)))))), (q2 + 1, .inl (aC 0, 1800, .inl (fun _ => 0))), (q2 + 2, .inl (aC 0, 1800, .inl (fun _ => 0))), (q1, .inl (aC 1, 2, .inl (fun _ => 0)))] s.heap H locs := hC
  refine W.vret hx hb hr (fun t ht hW => ⟨rfl, ⟨_, ⟨q1, q2, rfl⟩, fun q hq => ?_, ?_⟩, hC.1.2.2.1.F ht⟩) hC.1.2.2.1.2.2 d2_init_28 hlocks
  · have hq2 := hC.2.2.1 q (by simp only [List.mem_cons] at hq ⊢; rcases hq with a | a | a | a | a | a <;> simp [a])
    exact ⟨by rw [ht]; exact hq2.1, hq2.2.1⟩
  · have h4 := hC.2.2.2
    simp only [List.map_cons, List.nodup_cons, List.mem_cons, not_or] at h4 ⊢
    obtain ⟨⟨a1, a2, a3, a4, a5⟩, ⟨b1, b2, b3, b4⟩, ⟨c1, c2, c3⟩, ⟨d1, d2⟩, r⟩ := h4
    exact ⟨⟨a4, a1, a2, a3, a5⟩, ⟨fun z => b3 z.symm, fun z => c2 z.symm, fun z => d1 z.symm, r.1⟩, ⟨b1, b2, b4⟩, ⟨c1, c3⟩, ⟨d2, r.2⟩⟩
theorem hd2_init : y2_init.cls ≠ "java/lang/invoke/MethodHandle" ∧ y2_init.cls ≠ "java/lang/invoke/VarHandle" ∧ (parseMethodDescriptor y2_init.desc).map (fun d => d.parameters.length) = some 0 := ⟨by decide, by decide, by decide +kernel⟩
