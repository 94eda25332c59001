theorem c_swap {D : va_G} {aC : Nat → ClassId} {ad : Nat → Nat → Nat} {X : Nat → Nat → Prop} {Z : Nat → Prop} {S A : sS} {G : sG} {x y : Nat × va_E} {ws : va_W} {H0 H : Heap} {locs : List Loc} (h : c_B D aC ad X Z S A G (x :: y :: ws) H0 H locs) : c_B D aC ad X Z S A G (y :: x :: ws) H0 H locs := by
  obtain ⟨h1, h2, h3, h4⟩ := h
  refine ⟨h1, h2, fun q hq => h3 q (by simp only [List.mem_cons] at hq ⊢; rcases hq with a | a | a <;> simp [a]), ?_⟩
  simp only [List.map_cons, List.nodup_cons, List.mem_cons, not_or] at h4 ⊢
  exact ⟨⟨fun q => h4.1.1 q.symm, h4.2.1⟩, h4.1.2, h4.2.2⟩
/-- a constructor's start and end: the cell h0 is given, cells w1 come of it -/
def c_Pc (D : va_G) (aC : Nat → ClassId) (av : List Value) (h0 : Nat) (e0 : va_E) (sz : Nat) (E : State → Prop) : Array Value → State → Prop := va_Pc av (fun U => U.heap.size = sz ∧ va_at D cls (h0, e0) U.heap ∧ va_K D cls (tyl aC) U ∧ E U)
def c_Q (D : va_G) (P : va_W → Prop) (h0 sz : Nat) : Array Value → State → Outcome → State → Prop := fun _ st oc t => oc = .returned none ∧ (∃ w1 : va_W, P w1 ∧ (∀ q ∈ w1, va_at D cls q t.heap ∧ (q.1 = h0 ∨ sz ≤ q.1)) ∧ (w1.map (fun q => q.1)).Nodup) ∧ va_F (fun q => q = h0 ∨ sz ≤ q) st t
/-- the store with nothing in it -/
theorem c_start {D : va_G} {aC : Nat → ClassId} {h0 : Nat} {e0 : va_E} {H : Heap} (h : va_at D cls (h0, e0) H) : c_B D aC (fun _ _ => 0) (fun _ _ => False) (fun q => q = h0 ∨ H.size ≤ q) (fun _ _ _ => 0) (fun _ _ _ => 0) (fun _ _ => none) [(h0, e0)] H H [] := by
  refine ⟨⟨fun _ _ _ _ h => h.elim, fun _ _ h => h.elim, va_S.rf, fun _ _ h => h.elim⟩, ⟨fun _ _ _ h => h.elim, fun _ _ _ _ h => h.elim⟩, fun q hq => ?_, by simp⟩
  rw [List.mem_singleton.mp hq]
  exact ⟨h, Or.inl rfl, fun z => by obtain ⟨_, _, h, _⟩ := z; exact h⟩
section CCALL
variable {p : Program} {l : Launch} {e : Env} {R : Room} {s : State} {m : MethodId} {args : Array Value} {below : List Frame} {meth : Method} {c : Code} {H : Heap} {locs : List Loc} {cells slots : Nat} {Q : State → Prop}
variable {cc : ByteArray} {pc : Nat} {ls : Array Slot} {rest st0 : List Value} {D : va_G} {aC : Nat → ClassId} {ad : Nat → Nat → Nat} {X : Nat → Nat → Prop} {Z : Nat → Prop} {S A : sS} {G : sG} {H0 : Heap} {ws : va_W}
theorem cr_init {a : Nat} {e0 : va_E} {P : va_W → Prop} {av : Array Value} {mc ms : Nat} (hr : va_Run p l e R s m args below meth c H locs cells slots mc ms (F0 m pc ls st0) rest (c_Q D P a H.size av) (fun q => q = a ∨ H.size ≤ q)) (hC : c_B D aC ad X Z S A G ((a, e0) :: ws) H0 H locs) (hZn : ∀ q, H0.size ≤ q → Z q)
    (kk : ∀ (w1 : va_W) (H1 : Heap) (locs1 : List Loc), P w1 → c_B D aC ad X Z S A G (w1 ++ ws) H0 H1 locs1 → W p l e R s m args below meth c H1 locs1 (cells + mc) (slots + ms) Q (F0 m (pc + 3) ls rest)) : W p l e R s m args below meth c H locs cells slots Q (F0 m pc ls st0) := by
  obtain ⟨⟨hJ, hP, hV, hZ⟩, hL, hw, hnd⟩ := hC
  obtain ⟨hea, hZa, hna⟩ := hw _ List.mem_cons_self
  have hnd2 := List.nodup_cons.mp hnd
  intro T hT X1
  obtain ⟨v, st₀, t, T', L, h0, X', hLf, e1, e2, ⟨hv, ⟨w1, hPw, hw1, hn1⟩, hz, hk⟩, st⟩ := hr T hT X1
  cases hv
  rw [h0] at hz hk
  have keep : ∀ q : Nat, q < H.size → q ≠ a → T'.heap[q]? = H[q]? := fun q h1 h2 => by rw [e1]; exact hk q h1 (fun z => z.elim h2 (fun z => by omega))
  have hZq : ∀ q, (q = a ∨ H.size ≤ q) → Z q := fun q h => by
    rcases h with rfl | h
    · exact hZa
    · exact hZn q (Nat.le_trans hV.1 h)
  have old : ∀ x ∈ ws, x.1 < H.size ∧ x.1 ≠ a := fun x hx => ⟨(hw x (List.mem_cons_of_mem _ hx)).1.lt, fun z => hnd2.1 (List.mem_map.mpr ⟨x, hx, z⟩)⟩
  have hC1 : c_B D aC ad X Z S A G (w1 ++ ws) H0 T'.heap (locs ++ L) := by
    refine ⟨⟨hJ, fun f n h => (hP f n h).kept (keep _ (hP f n h).lt (fun z => hna ⟨f, n, h, z⟩)), ⟨Nat.le_trans hV.1 (by rw [e1]; exact hz), fun q h1 h2 => ?_, fun q hq => ?_⟩, hZ⟩, hL, fun q hq => ?_, ?_⟩
    · rw [keep q (Nat.lt_of_lt_of_le h1 hV.1) (fun z => h2 (by rw [z]; exact hZa))]
      exact hV.2.1 q h1 h2
    · rcases List.mem_append.mp hq with h | h
      · exact hV.2.2 q h
      · exact hZq _ (hLf q h)
    · rcases List.mem_append.mp hq with h | h
      · obtain ⟨g1, g2⟩ := hw1 q h
        refine ⟨by rw [e1]; exact g1, hZq _ g2, fun z => ?_⟩
        obtain ⟨f, n, hx, ez⟩ := z
        have hlt := (hP f n hx).lt
        rcases g2 with g2 | g2
        · exact hna ⟨f, n, hx, by rw [ez, g2]⟩
        · omega
      · obtain ⟨g1, g2, g3⟩ := hw q (List.mem_cons_of_mem _ h)
        obtain ⟨o1, o2⟩ := old q h
        exact ⟨g1.kept (keep _ o1 o2), g2, g3⟩
    · rw [List.map_append]
      refine List.nodup_append.mpr ⟨hn1, hnd2.2, fun x hx y hy z => ?_⟩
      obtain ⟨q1, hq1, rfl⟩ := List.mem_map.mp hx
      obtain ⟨q2, hq2, rfl⟩ := List.mem_map.mp hy
      obtain ⟨o1, o2⟩ := old q2 hq2
      rcases (hw1 q1 hq1).2 with g | g
      · exact o2 (by rw [← z]; exact g)
      · omega
  obtain ⟨t2, a1, b1⟩ := kk w1 T'.heap (locs ++ L) hPw hC1 T' rfl X'
  exact ⟨t2, st t2 a1, b1⟩
end CCALL
theorem c_blind {D : va_G} {aC : Nat → ClassId} {av : List Value} {h0 : Nat} {e0 : va_E} {sz : Nat} {E : State → Prop} (hE : ∀ (U : State) (g : JFrame) (mk : MethodId) (a : Array Value), E U → E (U.calling g mk a)) : FrameBlind (c_Pc D aC av h0 e0 sz E) := fun a U g mk q => by
  obtain ⟨q0, q1, q2, q3, q4⟩ := q
  exact ⟨q0, q1, q2, va_K.moved (u := U) (U := U.calling g mk a) (Vm.Alike.refl U.vm) q3, hE U g mk a q4⟩
theorem c_pre {D : va_G} {aC : Nat → ClassId} {av : List Value} {h0 : Nat} {e0 : va_E} {s : State} {H : Heap} {E : State → Prop} (hK : va_K D cls (tyl aC) s) (he : va_at D cls (h0, e0) H) (hE : ∀ U : State, s.WarmedH U.vm → E U) : ∀ U : State, U.heap = H → s.WarmedH U.vm → c_Pc D aC av h0 e0 H.size E av.toArray U := fun U hU hW => ⟨rfl, by rw [hU], by rw [hU]; exact he, va_K.moved hW.alike hK, hE U hW⟩
set_option maxRecDepth 100000 in
set_option maxHeartbeats 4000000 in
theorem m5_init {l : Launch} {D : va_G} {aC : Nat → ClassId} (h0 sz : Nat) (x1 : Int32) (x2 : Int32)  : Met l y5_init (.code y5_init b5_init 3 none :: wall) { frames := 1, cells := 0, slots := 0, locals := 40 } (c_Pc D aC [.ref h0, .int x1, .int x2] h0 (.inr (5, [.int 0, .int 0, .int 0, .int 0])) sz (fun _ => True)) (c_Q D (fun w1 => w1 = [(h0, .inr (5, [.int x1, .int x2, .int 0, .int 0]))]) h0 sz) 0 0 (fun q => q = h0 ∨ sz ≤ q) := by
  refine Met.ofW (cc := b5_init) (maxL := 3) (ret := none) (by decide) rfl ?_
  intro p e s m args below meth c s₁ B hml hv
  obtain ⟨rfl, rfl, hat, hK, -⟩ := hv
  have hx := B.exec
  have hb := B.bytes
  have hr := B.returns
  have hlocks := B.notSynchronized
  have hw : ∀ w ∈ wall, w.before _ s = true := fun w h => atoms_spec (ws := .code y5_init b5_init 3 none :: wall) B.pre w (List.mem_cons_of_mem _ h)
  have hown : s.vm.findClass R5 = some m.cls := findClass_of_methodNamed B.named
  have hin : meth.name = "<init>" := (name_of_methodNamed B.named B.method).1
  have hC := c_start (D := D) (aC := aC) hat
  have hZn : ∀ q, s.heap.size ≤ q → (fun q => q = h0 ∨ s.heap.size ≤ q) q := fun q h => Or.inr h
  have hl := lv_entry [.ref h0, .int x1, .int x2] (n := 3) (Nat.le_of_ble_eq_true rfl)
  rw [lg_entry_eq]
  generalize (lg_sl [.ref h0, .int x1, .int x2] ++ List.replicate (3 - (lg_sl [.ref h0, .int x1, .int x2]).length) Slot.unset).toArray = ls at hl ⊢
  have hl : lv_has ls 3 [(0, .ref h0), (1, .int x1), (2, .int x2)] := hl
  refine lv_aload_n hx hb d5_init_0 rfl (lv_at hl 0 rfl) ?_
  refine W.objInit hx hb hown (hw _ ml_5_1) (hw _ im_O_init) (hw _ cd_O_init) rfl (by rw [hml]; exact hl.1) rfl d5_init_1 (Nat.le_of_ble_eq_true rfl) (Nat.le_of_ble_eq_true rfl) ?_
  refine W.eq (g2 := F0 m 4 ls []) rfl ?_
  refine lv_aload_n hx hb d5_init_4 rfl (lv_at hl 0 rfl) ?_
  refine lv_iconst (v := 0) hx hb d5_init_5 (by decide) ?_
  refine cr_put (v := .int 0) hx hb hw hown hK hC 2 rfl us5 tk5 nm5 (by decide) fl_5_7 (Or.inl rfl) rfl rfl (Nat.le_of_ble_eq_true rfl) d5_init_6 (fun H locs hC => ?_)
  have hC : c_B D aC (fun _ _ => 0) (fun _ _ => False) (fun q => q = h0 ∨ s.heap.size ≤ q) (fun _ _ _ => 0) (fun _ _ _ => 0) (fun _ _ => none) [(h0, .inr (5, [.int 0, .int 0, .int 0, .int 0]))] s.heap H locs := hC
  refine lv_aload_n hx hb d5_init_9 rfl (lv_at hl 0 rfl) ?_
  refine lv_iconst (v := 0) hx hb d5_init_10 (by decide) ?_
  refine cr_put (v := .int 0) hx hb hw hown hK hC 3 rfl us5 tk5 nm5 (by decide) fl_5_13 (Or.inl rfl) rfl rfl (Nat.le_of_ble_eq_true rfl) d5_init_11 (fun H locs hC => ?_)
  have hC : c_B D aC (fun _ _ => 0) (fun _ _ => False) (fun q => q = h0 ∨ s.heap.size ≤ q) (fun _ _ _ => 0) (fun _ _ _ => 0) (fun _ _ => none) [(h0, .inr (5, [.int 0, .int 0, .int 0, .int 0]))] s.heap H locs := hC
  refine lv_aload_n hx hb d5_init_14 rfl (lv_at hl 0 rfl) ?_
  refine lv_iload_n hx hb d5_init_15 rfl (lv_at hl 1 rfl) ?_
  refine cr_put (v := .int x1) hx hb hw hown hK hC 0 rfl us5 tk5 nm5 (by decide) fl_5_16 (Or.inr ⟨rfl, hin, rfl⟩) rfl rfl (Nat.le_of_ble_eq_true rfl) d5_init_16 (fun H locs hC => ?_)
  have hC : c_B D aC (fun _ _ => 0) (fun _ _ => False) (fun q => q = h0 ∨ s.heap.size ≤ q) (fun _ _ _ => 0) (fun _ _ _ => 0) (fun _ _ => none) [(h0, .inr (5, [.int x1, .int 0, .int 0, .int 0]))] s.heap H locs := hC
  refine lv_aload_n hx hb d5_init_19 rfl (lv_at hl 0 rfl) ?_
  refine lv_iload_n hx hb d5_init_20 rfl (lv_at hl 2 rfl) ?_
  refine cr_put (v := .int x2) hx hb hw hown hK hC 1 rfl us5 tk5 nm5 (by decide) fl_5_19 (Or.inr ⟨rfl, hin, rfl⟩) rfl rfl (Nat.le_of_ble_eq_true rfl) d5_init_21 (fun H locs hC => ?_)
  have hC : c_B D aC (fun _ _ => 0) (fun _ _ => False) (fun q => q = h0 ∨ s.heap.size ≤ q) (fun _ _ _ => 0) (fun _ _ _ => 0) (fun _ _ => none) [(h0, .inr (5, [.int x1, .int x2, .int 0, .int 0]))] s.heap H locs := hC
  exact W.vret hx hb hr (fun t ht hW => ⟨rfl, ⟨_, rfl, fun q hq => ⟨by rw [ht]; exact (hC.2.2.1 q hq).1, (hC.2.2.1 q hq).2.1⟩, hC.2.2.2⟩, hC.1.2.2.1.F ht⟩) hC.1.2.2.1.2.2 d5_init_24 hlocks
theorem hd5_init : y5_init.cls ≠ "java/lang/invoke/MethodHandle" ∧ y5_init.cls ≠ "java/lang/invoke/VarHandle" ∧ (parseMethodDescriptor y5_init.desc).map (fun d => d.parameters.length) = some 2 := ⟨by decide, by decide, by decide +kernel⟩
set_option maxRecDepth 100000 in
set_option maxHeartbeats 4000000 in
theorem m1_init {l : Launch} {D : va_G} {aC : Nat → ClassId} (h0 sz : Nat) (x1 : Int32) (x2 : Int32) (hz1 : x1 = 0 ∨ x1 = 1) : Met l y1_init (.code y1_init b1_init 3 none :: wall) { frames := 1, cells := 0, slots := 0, locals := 40 } (c_Pc D aC [.ref h0, .int x1, .int x2] h0 (.inr (1, [.int 0, .int 0, .int 0])) sz (fun _ => True)) (c_Q D (fun w1 => w1 = [(h0, .inr (1, [.int x1, .int x2, .int 0]))]) h0 sz) 0 0 (fun q => q = h0 ∨ sz ≤ q) := by
  refine Met.ofW (cc := b1_init) (maxL := 3) (ret := none) (by decide) rfl ?_
  intro p e s m args below meth c s₁ B hml hv
  obtain ⟨rfl, rfl, hat, hK, -⟩ := hv
  have hx := B.exec
  have hb := B.bytes
  have hr := B.returns
  have hlocks := B.notSynchronized
  have hw : ∀ w ∈ wall, w.before _ s = true := fun w h => atoms_spec (ws := .code y1_init b1_init 3 none :: wall) B.pre w (List.mem_cons_of_mem _ h)
  have hown : s.vm.findClass R1 = some m.cls := findClass_of_methodNamed B.named
  have hin : meth.name = "<init>" := (name_of_methodNamed B.named B.method).1
  have hC := c_start (D := D) (aC := aC) hat
  have hZn : ∀ q, s.heap.size ≤ q → (fun q => q = h0 ∨ s.heap.size ≤ q) q := fun q h => Or.inr h
  have hl := lv_entry [.ref h0, .int x1, .int x2] (n := 3) (Nat.le_of_ble_eq_true rfl)
  rw [lg_entry_eq]
  generalize (lg_sl [.ref h0, .int x1, .int x2] ++ List.replicate (3 - (lg_sl [.ref h0, .int x1, .int x2]).length) Slot.unset).toArray = ls at hl ⊢
  have hl : lv_has ls 3 [(0, .ref h0), (1, .int x1), (2, .int x2)] := hl
  refine lv_aload_n hx hb d1_init_0 rfl (lv_at hl 0 rfl) ?_
  refine W.objInit hx hb hown (hw _ ml_1_1) (hw _ im_O_init) (hw _ cd_O_init) rfl (by rw [hml]; exact hl.1) rfl d1_init_1 (Nat.le_of_ble_eq_true rfl) (Nat.le_of_ble_eq_true rfl) ?_
  refine W.eq (g2 := F0 m 4 ls []) rfl ?_
  refine lv_aload_n hx hb d1_init_4 rfl (lv_at hl 0 rfl) ?_
  refine lv_iconst (v := 0) hx hb d1_init_5 (by decide) ?_
  refine cr_put (v := .int 0) hx hb hw hown hK hC 2 rfl us1 tk1 nm1 (by decide) fl_1_7 (Or.inl rfl) rfl rfl (Nat.le_of_ble_eq_true rfl) d1_init_6 (fun H locs hC => ?_)
  have hC : c_B D aC (fun _ _ => 0) (fun _ _ => False) (fun q => q = h0 ∨ s.heap.size ≤ q) (fun _ _ _ => 0) (fun _ _ _ => 0) (fun _ _ => none) [(h0, .inr (1, [.int 0, .int 0, .int 0]))] s.heap H locs := hC
  refine lv_aload_n hx hb d1_init_9 rfl (lv_at hl 0 rfl) ?_
  refine lv_iload_n hx hb d1_init_10 rfl (lv_at hl 1 rfl) ?_
  refine cr_put (v := .int x1) hx hb hw hown hK hC 0 rfl us1 tk1 nm1 (by decide) fl_1_13 (Or.inr ⟨rfl, hin, rfl⟩) (nb_n hz1) (nb_f hz1) (Nat.le_of_ble_eq_true rfl) d1_init_11 (fun H locs hC => ?_)
  have hC : c_B D aC (fun _ _ => 0) (fun _ _ => False) (fun q => q = h0 ∨ s.heap.size ≤ q) (fun _ _ _ => 0) (fun _ _ _ => 0) (fun _ _ => none) [(h0, .inr (1, [.int x1, .int 0, .int 0]))] s.heap H locs := hC
  refine lv_aload_n hx hb d1_init_14 rfl (lv_at hl 0 rfl) ?_
  refine lv_iload_n hx hb d1_init_15 rfl (lv_at hl 2 rfl) ?_
  refine cr_put (v := .int x2) hx hb hw hown hK hC 1 rfl us1 tk1 nm1 (by decide) fl_1_17 (Or.inr ⟨rfl, hin, rfl⟩) rfl rfl (Nat.le_of_ble_eq_true rfl) d1_init_16 (fun H locs hC => ?_)
  have hC : c_B D aC (fun _ _ => 0) (fun _ _ => False) (fun q => q = h0 ∨ s.heap.size ≤ q) (fun _ _ _ => 0) (fun _ _ _ => 0) (fun _ _ => none) [(h0, .inr (1, [.int x1, .int x2, .int 0]))] s.heap H locs := hC
  exact W.vret hx hb hr (fun t ht hW => ⟨rfl, ⟨_, rfl, fun q hq => ⟨by rw [ht]; exact (hC.2.2.1 q hq).1, (hC.2.2.1 q hq).2.1⟩, hC.2.2.2⟩, hC.1.2.2.1.F ht⟩) hC.1.2.2.1.2.2 d1_init_19 hlocks
theorem hd1_init : y1_init.cls ≠ "java/lang/invoke/MethodHandle" ∧ y1_init.cls ≠ "java/lang/invoke/VarHandle" ∧ (parseMethodDescriptor y1_init.desc).map (fun d => d.parameters.length) = some 2 := ⟨by decide, by decide, by decide +kernel⟩
set_option maxRecDepth 100000 in
set_option maxHeartbeats 4000000 in
theorem m3_init {l : Launch} {D : va_G} {aC : Nat → ClassId} (h0 sz : Nat) (x1 : Int32) (x2 : Int32) (x3 : Int32) (x4 : Int32)  : Met l y3_init (.code y3_init b3_init 5 none :: wall) { frames := 1, cells := 0, slots := 0, locals := 40 } (c_Pc D aC [.ref h0, .int x1, .int x2, .int x3, .int x4] h0 (.inr (3, [.int 0, .int 0, .int 0, .int 0, .int 0, .int 0, .int 0])) sz (fun _ => True)) (c_Q D (fun w1 => w1 = [(h0, .inr (3, [.int x1, .int x3, .int x4, .int x2, .int 0, .int 0, .int 0]))]) h0 sz) 0 0 (fun q => q = h0 ∨ sz ≤ q) := by
  refine Met.ofW (cc := b3_init) (maxL := 5) (ret := none) (by decide) rfl ?_
  intro p e s m args below meth c s₁ B hml hv
  obtain ⟨rfl, rfl, hat, hK, -⟩ := hv
  have hx := B.exec
  have hb := B.bytes
  have hr := B.returns
  have hlocks := B.notSynchronized
  have hw : ∀ w ∈ wall, w.before _ s = true := fun w h => atoms_spec (ws := .code y3_init b3_init 5 none :: wall) B.pre w (List.mem_cons_of_mem _ h)
  have hown : s.vm.findClass R3 = some m.cls := findClass_of_methodNamed B.named
  have hin : meth.name = "<init>" := (name_of_methodNamed B.named B.method).1
  have hC := c_start (D := D) (aC := aC) hat
  have hZn : ∀ q, s.heap.size ≤ q → (fun q => q = h0 ∨ s.heap.size ≤ q) q := fun q h => Or.inr h
  have hl := lv_entry [.ref h0, .int x1, .int x2, .int x3, .int x4] (n := 5) (Nat.le_of_ble_eq_true rfl)
  rw [lg_entry_eq]
  generalize (lg_sl [.ref h0, .int x1, .int x2, .int x3, .int x4] ++ List.replicate (5 - (lg_sl [.ref h0, .int x1, .int x2, .int x3, .int x4]).length) Slot.unset).toArray = ls at hl ⊢
  have hl : lv_has ls 5 [(0, .ref h0), (1, .int x1), (2, .int x2), (3, .int x3), (4, .int x4)] := hl
  refine lv_aload_n hx hb d3_init_0 rfl (lv_at hl 0 rfl) ?_
  refine W.objInit hx hb hown (hw _ ml_3_1) (hw _ im_O_init) (hw _ cd_O_init) rfl (by rw [hml]; exact hl.1) rfl d3_init_1 (Nat.le_of_ble_eq_true rfl) (Nat.le_of_ble_eq_true rfl) ?_
  refine W.eq (g2 := F0 m 4 ls []) rfl ?_
  refine lv_aload_n hx hb d3_init_4 rfl (lv_at hl 0 rfl) ?_
  refine lv_iconst (v := 0) hx hb d3_init_5 (by decide) ?_
  refine cr_put (v := .int 0) hx hb hw hown hK hC 4 rfl us3 tk3 nm3 (by decide) fl_3_7 (Or.inl rfl) rfl rfl (Nat.le_of_ble_eq_true rfl) d3_init_6 (fun H locs hC => ?_)
  have hC : c_B D aC (fun _ _ => 0) (fun _ _ => False) (fun q => q = h0 ∨ s.heap.size ≤ q) (fun _ _ _ => 0) (fun _ _ _ => 0) (fun _ _ => none) [(h0, .inr (3, [.int 0, .int 0, .int 0, .int 0, .int 0, .int 0, .int 0]))] s.heap H locs := hC
  refine lv_aload_n hx hb d3_init_9 rfl (lv_at hl 0 rfl) ?_
  refine lv_iconst (v := 0) hx hb d3_init_10 (by decide) ?_
  refine cr_put (v := .int 0) hx hb hw hown hK hC 5 rfl us3 tk3 nm3 (by decide) fl_3_13 (Or.inl rfl) rfl rfl (Nat.le_of_ble_eq_true rfl) d3_init_11 (fun H locs hC => ?_)
  have hC : c_B D aC (fun _ _ => 0) (fun _ _ => False) (fun q => q = h0 ∨ s.heap.size ≤ q) (fun _ _ _ => 0) (fun _ _ _ => 0) (fun _ _ => none) [(h0, .inr (3, [.int 0, .int 0, .int 0, .int 0, .int 0, .int 0, .int 0]))] s.heap H locs := hC
  refine lv_aload_n hx hb d3_init_14 rfl (lv_at hl 0 rfl) ?_
  refine lv_iconst (v := 0) hx hb d3_init_15 (by decide) ?_
  refine cr_put (v := .int 0) hx hb hw hown hK hC 6 rfl us3 tk3 nm3 (by decide) fl_3_16 (Or.inl rfl) rfl rfl (Nat.le_of_ble_eq_true rfl) d3_init_16 (fun H locs hC => ?_)
  have hC : c_B D aC (fun _ _ => 0) (fun _ _ => False) (fun q => q = h0 ∨ s.heap.size ≤ q) (fun _ _ _ => 0) (fun _ _ _ => 0) (fun _ _ => none) [(h0, .inr (3, [.int 0, .int 0, .int 0, .int 0, .int 0, .int 0, .int 0]))] s.heap H locs := hC
  refine lv_aload_n hx hb d3_init_19 rfl (lv_at hl 0 rfl) ?_
  refine lv_iload_n hx hb d3_init_20 rfl (lv_at hl 1 rfl) ?_
  refine cr_put (v := .int x1) hx hb hw hown hK hC 0 rfl us3 tk3 nm3 (by decide) fl_3_20 (Or.inr ⟨rfl, hin, rfl⟩) rfl rfl (Nat.le_of_ble_eq_true rfl) d3_init_21 (fun H locs hC => ?_)
  have hC : c_B D aC (fun _ _ => 0) (fun _ _ => False) (fun q => q = h0 ∨ s.heap.size ≤ q) (fun _ _ _ => 0) (fun _ _ _ => 0) (fun _ _ => none) [(h0, .inr (3, [.int x1, .int 0, .int 0, .int 0, .int 0, .int 0, .int 0]))] s.heap H locs := hC
  refine lv_aload_n hx hb d3_init_24 rfl (lv_at hl 0 rfl) ?_
  refine lv_iload_n hx hb d3_init_25 rfl (lv_at hl 2 rfl) ?_
  refine cr_put (v := .int x2) hx hb hw hown hK hC 3 rfl us3 tk3 nm3 (by decide) fl_3_23 (Or.inl rfl) rfl rfl (Nat.le_of_ble_eq_true rfl) d3_init_26 (fun H locs hC => ?_)
  have hC : c_B D aC (fun _ _ => 0) (fun _ _ => False) (fun q => q = h0 ∨ s.heap.size ≤ q) (fun _ _ _ => 0) (fun _ _ _ => 0) (fun _ _ => none) [(h0, .inr (3, [.int x1, .int 0, .int 0, .int x2, .int 0, .int 0, .int 0]))] s.heap H locs := hC
  refine lv_aload_n hx hb d3_init_29 rfl (lv_at hl 0 rfl) ?_
  refine lv_iload_n hx hb d3_init_30 rfl (lv_at hl 3 rfl) ?_
  refine cr_put (v := .int x3) hx hb hw hown hK hC 1 rfl us3 tk3 nm3 (by decide) fl_3_26 (Or.inr ⟨rfl, hin, rfl⟩) rfl rfl (Nat.le_of_ble_eq_true rfl) d3_init_31 (fun H locs hC => ?_)
  have hC : c_B D aC (fun _ _ => 0) (fun _ _ => False) (fun q => q = h0 ∨ s.heap.size ≤ q) (fun _ _ _ => 0) (fun _ _ _ => 0) (fun _ _ => none) [(h0, .inr (3, [.int x1, .int x3, .int 0, .int x2, .int 0, .int 0, .int 0]))] s.heap H locs := hC
  refine lv_aload_n hx hb d3_init_34 rfl (lv_at hl 0 rfl) ?_
  refine lv_iload hx hb d3_init_35 (lv_at hl 4 rfl) ?_
  refine cr_put (v := .int x4) hx hb hw hown hK hC 2 rfl us3 tk3 nm3 (by decide) fl_3_29 (Or.inr ⟨rfl, hin, rfl⟩) rfl rfl (Nat.le_of_ble_eq_true rfl) d3_init_37 (fun H locs hC => ?_)
  have hC : c_B D aC (fun _ _ => 0) (fun _ _ => False) (fun q => q = h0 ∨ s.heap.size ≤ q) (fun _ _ _ => 0) (fun _ _ _ => 0) (fun _ _ => none) [(h0, .inr (3, [.int x1, .int x3, .int x4, .int x2, .int 0, .int 0, .int 0]))] s.heap H locs := hC
  exact W.vret hx hb hr (fun t ht hW => ⟨rfl, ⟨_, rfl, fun q hq => ⟨by rw [ht]; exact (hC.2.2.1 q hq).1, (hC.2.2.1 q hq).2.1⟩, hC.2.2.2⟩, hC.1.2.2.1.F ht⟩) hC.1.2.2.1.2.2 d3_init_40 hlocks
theorem hd3_init : y3_init.cls ≠ "java/lang/invoke/MethodHandle" ∧ y3_init.cls ≠ "java/lang/invoke/VarHandle" ∧ (parseMethodDescriptor y3_init.desc).map (fun d => d.parameters.length) = some 4 := ⟨by decide, by decide, by decide +kernel⟩
set_option maxRecDepth 100000 in
set_option maxHeartbeats 4000000 in
theorem m4_init {l : Launch} {D : va_G} {aC : Nat → ClassId} (h0 sz : Nat)   : Met l y4_init (.code y4_init b4_init 1 none :: wall) { frames := 1, cells := 0, slots := 0, locals := 40 } (c_Pc D aC [.ref h0] h0 (.inr (4, [.int 0, .int 0, .int 0, .int 0, .int 0, .int 0, .int 0])) sz (fun _ => True)) (c_Q D (fun w1 => w1 = [(h0, .inr (4, [.int (-1), .int (-1), .int (-1), .int 0, .int 0, .int 0, .int 0]))]) h0 sz) 0 0 (fun q => q = h0 ∨ sz ≤ q) := by
  refine Met.ofW (cc := b4_init) (maxL := 1) (ret := none) (by decide) rfl ?_
  intro p e s m args below meth c s₁ B hml hv
  obtain ⟨rfl, rfl, hat, hK, -⟩ := hv
  have hx := B.exec
  have hb := B.bytes
  have hr := B.returns
  have hlocks := B.notSynchronized
  have hw : ∀ w ∈ wall, w.before _ s = true := fun w h => atoms_spec (ws := .code y4_init b4_init 1 none :: wall) B.pre w (List.mem_cons_of_mem _ h)
  have hown : s.vm.findClass R4 = some m.cls := findClass_of_methodNamed B.named
  have hin : meth.name = "<init>" := (name_of_methodNamed B.named B.method).1
  have hC := c_start (D := D) (aC := aC) hat
  have hZn : ∀ q, s.heap.size ≤ q → (fun q => q = h0 ∨ s.heap.size ≤ q) q := fun q h => Or.inr h
  have hl := lv_entry [.ref h0] (n := 1) (Nat.le_of_ble_eq_true rfl)
  rw [lg_entry_eq]
  generalize (lg_sl [.ref h0] ++ List.replicate (1 - (lg_sl [.ref h0]).length) Slot.unset).toArray = ls at hl ⊢
  have hl : lv_has ls 1 [(0, .ref h0)] := hl
  refine lv_aload_n hx hb d4_init_0 rfl (lv_at hl 0 rfl) ?_
  refine W.objInit hx hb hown (hw _ ml_4_3) (hw _ im_O_init) (hw _ cd_O_init) rfl (by rw [hml]; exact hl.1) rfl d4_init_1 (Nat.le_of_ble_eq_true rfl) (Nat.le_of_ble_eq_true rfl) ?_
  refine W.eq (g2 := F0 m 4 ls []) rfl ?_
  refine lv_aload_n hx hb d4_init_4 rfl (lv_at hl 0 rfl) ?_
  refine lv_iconst (v := (-1)) hx hb d4_init_5 (by decide) ?_
  refine cr_put (v := .int (-1)) hx hb hw hown hK hC 0 rfl us4 tk4 nm4 (by decide) fl_4_9 (Or.inl rfl) rfl rfl (Nat.le_of_ble_eq_true rfl) d4_init_6 (fun H locs hC => ?_)
  have hC : c_B D aC (fun _ _ => 0) (fun _ _ => False) (fun q => q = h0 ∨ s.heap.size ≤ q) (fun _ _ _ => 0) (fun _ _ _ => 0) (fun _ _ => none) [(h0, .inr (4, [.int (-1), .int 0, .int 0, .int 0, .int 0, .int 0, .int 0]))] s.heap H locs := hC
  refine lv_aload_n hx hb d4_init_9 rfl (lv_at hl 0 rfl) ?_
  refine lv_iconst (v := (-1)) hx hb d4_init_10 (by decide) ?_
  refine cr_put (v := .int (-1)) hx hb hw hown hK hC 1 rfl us4 tk4 nm4 (by decide) fl_4_15 (Or.inl rfl) rfl rfl (Nat.le_of_ble_eq_true rfl) d4_init_11 (fun H locs hC => ?_)
  have hC : c_B D aC (fun _ _ => 0) (fun _ _ => False) (fun q => q = h0 ∨ s.heap.size ≤ q) (fun _ _ _ => 0) (fun _ _ _ => 0) (fun _ _ => none) [(h0, .inr (4, [.int (-1), .int (-1), .int 0, .int 0, .int 0, .int 0, .int 0]))] s.heap H locs := hC
  refine lv_aload_n hx hb d4_init_14 rfl (lv_at hl 0 rfl) ?_
  refine lv_iconst (v := (-1)) hx hb d4_init_15 (by decide) ?_
  refine cr_put (v := .int (-1)) hx hb hw hown hK hC 2 rfl us4 tk4 nm4 (by decide) fl_4_18 (Or.inl rfl) rfl rfl (Nat.le_of_ble_eq_true rfl) d4_init_16 (fun H locs hC => ?_)
  have hC : c_B D aC (fun _ _ => 0) (fun _ _ => False) (fun q => q = h0 ∨ s.heap.size ≤ q) (fun _ _ _ => 0) (fun _ _ _ => 0) (fun _ _ => none) [(h0, .inr (4, [.int (-1), .int (-1), .int (-1), .int 0, .int 0, .int 0, .int 0]))] s.heap H locs := hC
  refine lv_aload_n hx hb d4_init_19 rfl (lv_at hl 0 rfl) ?_
  refine lv_iconst (v := 0) hx hb d4_init_20 (by decide) ?_
  refine cr_put (v := .int 0) hx hb hw hown hK hC 3 rfl us4 tk4 nm4 (by decide) fl_4_21 (Or.inl rfl) rfl rfl (Nat.le_of_ble_eq_true rfl) d4_init_21 (fun H locs hC => ?_)
  have hC : c_B D aC (fun _ _ => 0) (fun _ _ => False) (fun q => q = h0 ∨ s.heap.size ≤ q) (fun _ _ _ => 0) (fun _ _ _ => 0) (fun _ _ => none) [(h0, .inr (4, [.int (-1), .int (-1), .int (-1), .int 0, .int 0, .int 0, .int 0]))] s.heap H locs := hC
  refine lv_aload_n hx hb d4_init_24 rfl (lv_at hl 0 rfl) ?_
  refine lv_iconst (v := 0) hx hb d4_init_25 (by decide) ?_
  refine cr_put (v := .int 0) hx hb hw hown hK hC 4 rfl us4 tk4 nm4 (by decide) fl_4_24 (Or.inl rfl) rfl rfl (Nat.le_of_ble_eq_true rfl) d4_init_26 (fun H locs hC => ?_)
  have hC : c_B D aC (fun _ _ => 0) (fun _ _ => False) (fun q => q = h0 ∨ s.heap.size ≤ q) (fun _ _ _ => 0) (fun _ _ _ => 0) (fun _ _ => none) [(h0, .inr (4, [.int (-1), .int (-1), .int (-1), .int 0, .int 0, .int 0, .int 0]))] s.heap H locs := hC
  refine lv_aload_n hx hb d4_init_29 rfl (lv_at hl 0 rfl) ?_
  refine lv_iconst (v := 0) hx hb d4_init_30 (by decide) ?_
  refine cr_put (v := .int 0) hx hb hw hown hK hC 5 rfl us4 tk4 nm4 (by decide) fl_4_28 (Or.inl rfl) rfl rfl (Nat.le_of_ble_eq_true rfl) d4_init_31 (fun H locs hC => ?_)
  have hC : c_B D aC (fun _ _ => 0) (fun _ _ => False) (fun q => q = h0 ∨ s.heap.size ≤ q) (fun _ _ _ => 0) (fun _ _ _ => 0) (fun _ _ => none) [(h0, .inr (4, [.int (-1), .int (-1), .int (-1), .int 0, .int 0, .int 0, .int 0]))] s.heap H locs := hC
  refine lv_aload_n hx hb d4_init_34 rfl (lv_at hl 0 rfl) ?_
  refine lv_iconst (v := 0) hx hb d4_init_35 (by decide) ?_
  refine cr_put (v := .int 0) hx hb hw hown hK hC 6 rfl us4 tk4 nm4 (by decide) fl_4_31 (Or.inl rfl) rfl rfl (Nat.le_of_ble_eq_true rfl) d4_init_36 (fun H locs hC => ?_)
  have hC : c_B D aC (fun _ _ => 0) (fun _ _ => False) (fun q => q = h0 ∨ s.heap.size ≤ q) (fun _ _ _ => 0) (fun _ _ _ => 0) (fun _ _ => none) [(h0, .inr (4, [.int (-1), .int (-1), .int (-1), .int 0, .int 0, .int 0, .int 0]))] s.heap H locs := hC
  exact W.vret hx hb hr (fun t ht hW => ⟨rfl, ⟨_, rfl, fun q hq => ⟨by rw [ht]; exact (hC.2.2.1 q hq).1, (hC.2.2.1 q hq).2.1⟩, hC.2.2.2⟩, hC.1.2.2.1.F ht⟩) hC.1.2.2.1.2.2 d4_init_39 hlocks
theorem hd4_init : y4_init.cls ≠ "java/lang/invoke/MethodHandle" ∧ y4_init.cls ≠ "java/lang/invoke/VarHandle" ∧ (parseMethodDescriptor y4_init.desc).map (fun d => d.parameters.length) = some 0 := ⟨by decide, by decide, by decide +kernel⟩
set_option maxRecDepth 100000 in
set_option maxHeartbeats 4000000 in
theorem m0_init {l : Launch} {D : va_G} {aC : Nat → ClassId} (h0 sz : Nat)   : Met l y0_init (.code y0_init b0_init 1 none :: wall) { frames := 1, cells := 2, slots := 12, locals := 40 } (c_Pc D aC [.ref h0] h0 (.inr (0, [.null, .null, .int 0, .int 0, .int 0, .int 0])) sz (fun _ => True)) (c_Q D (fun w1 => ∃ q1 q2, w1 = [(h0, .inr (0, [.ref q1, .ref q2, .int (-1), .int 0, .int 0, .int 0])), (q2, .inl (aC 0, 6, .inl (fun _ => 0))), (q1, .inl (aC 0, 6, .inl (fun _ => 0)))]) h0 sz) 2 12 (fun q => q = h0 ∨ sz ≤ q) := by
  refine Met.ofW (cc := b0_init) (maxL := 1) (ret := none) (by decide) rfl ?_
  intro p e s m args below meth c s₁ B hml hv
  obtain ⟨rfl, rfl, hat, hK, -⟩ := hv
  have hx := B.exec
  have hb := B.bytes
  have hr := B.returns
  have hlocks := B.notSynchronized
  have hw : ∀ w ∈ wall, w.before _ s = true := fun w h => atoms_spec (ws := .code y0_init b0_init 1 none :: wall) B.pre w (List.mem_cons_of_mem _ h)
  have hown : s.vm.findClass R0 = some m.cls := findClass_of_methodNamed B.named
  have hin : meth.name = "<init>" := (name_of_methodNamed B.named B.method).1
  have hC := c_start (D := D) (aC := aC) hat
  have hZn : ∀ q, s.heap.size ≤ q → (fun q => q = h0 ∨ s.heap.size ≤ q) q := fun q h => Or.inr h
  have hl := lv_entry [.ref h0] (n := 1) (Nat.le_of_ble_eq_true rfl)
  rw [lg_entry_eq]
  generalize (lg_sl [.ref h0] ++ List.replicate (1 - (lg_sl [.ref h0]).length) Slot.unset).toArray = ls at hl ⊢
  have hl : lv_has ls 1 [(0, .ref h0)] := hl
  refine lv_aload_n hx hb d0_init_0 rfl (lv_at hl 0 rfl) ?_
  refine W.objInit hx hb hown (hw _ ml_0_3) (hw _ im_O_init) (hw _ cd_O_init) rfl (by rw [hml]; exact hl.1) rfl d0_init_1 (Nat.le_of_ble_eq_true rfl) (Nat.le_of_ble_eq_true rfl) ?_
  refine W.eq (g2 := F0 m 4 ls []) rfl ?_
  refine lv_aload_n hx hb d0_init_4 rfl (lv_at hl 0 rfl) ?_
  refine lv_bipush (v := 6) hx hb d0_init_5 (by decide) ?_
  refine cr_newa (atype := .int) (ty := .int) (t0 := 0) (N := 6) hx hb rfl (hw _ ac_int) hK hC hZn rfl (hK.2 0 _ rfl).2 rfl (by decide) (by decide) (by decide) (by show _ ≤ 2; omega) (by show _ ≤ 12; omega) d0_init_7 (fun q1 H eq1 hC => ?_)
  have hC := c_swap hC
  refine W.widen (k := 1) (n := 6) (by omega) (by omega) ?_
  refine cr_put (v := .ref q1) hx hb hw hown hK hC 0 rfl us0 tk0 nm0 (by decide) fl_0_9 (Or.inr ⟨rfl, hin, rfl⟩) rfl rfl (Nat.le_of_ble_eq_true rfl) d0_init_9 (fun H locs hC => ?_)
  have hC : c_B D aC (fun _ _ => 0) (fun _ _ => False) (fun q => q = h0 ∨ s.heap.size ≤ q) (fun _ _ _ => 0) (fun _ _ _ => 0) (fun _ _ => none) [(h0, .inr (0, [.ref q1, .null, .int 0, .int 0, .int 0, .int 0])), (q1, .inl (aC 0, 6, .inl (fun _ => 0)))] s.heap H locs := hC
  refine lv_aload_n hx hb d0_init_12 rfl (lv_at hl 0 rfl) ?_
  refine lv_bipush (v := 6) hx hb d0_init_13 (by decide) ?_
  refine cr_newa (atype := .int) (ty := .int) (t0 := 0) (N := 6) hx hb rfl (hw _ ac_int) hK hC hZn rfl (hK.2 0 _ rfl).2 rfl (by decide) (by decide) (by decide) (by show _ ≤ 2; omega) (by show _ ≤ 12; omega) d0_init_15 (fun q2 H eq2 hC => ?_)
  have hC := c_swap hC
  refine W.widen (k := 2) (n := 12) (by omega) (by omega) ?_
  refine cr_put (v := .ref q2) hx hb hw hown hK hC 1 rfl us0 tk0 nm0 (by decide) fl_0_15 (Or.inr ⟨rfl, hin, rfl⟩) rfl rfl (Nat.le_of_ble_eq_true rfl) d0_init_17 (fun H locs hC => ?_)
  have hC : c_B D aC (fun _ _ => 0) (fun _ _ => False) (fun q => q = h0 ∨ s.heap.size ≤ q) (fun _ _ _ => 0) (fun _ _ _ => 0) (fun _ _ => none) [(h0, .inr (0, [.ref q1, .ref q2, .int 0, .int 0, .int 0, .int 0])), (q2, .inl (aC 0, 6, .inl (fun _ => 0))), (q1, .inl (aC 0, 6, .inl (fun _ => 0)))] s.heap H locs := hC
  refine lv_aload_n hx hb d0_init_20 rfl (lv_at hl 0 rfl) ?_
  refine lv_iconst (v := (-1)) hx hb d0_init_21 (by decide) ?_
  refine cr_put (v := .int (-1)) hx hb hw hown hK hC 2 rfl us0 tk0 nm0 (by decide) fl_0_18 (Or.inl rfl) rfl rfl (Nat.le_of_ble_eq_true rfl) d0_init_22 (fun H locs hC => ?_)
  have hC : c_B D aC (fun _ _ => 0) (fun _ _ => False) (fun q => q = h0 ∨ s.heap.size ≤ q) (fun _ _ _ => 0) (fun _ _ _ => 0) (fun _ _ => none) [(h0, .inr (0, [.ref q1, .ref q2, .int (-1), .int 0, .int 0, .int 0])), (q2, .inl (aC 0, 6, .inl (fun _ => 0))), (q1, .inl (aC 0, 6, .inl (fun _ => 0)))] s.heap H locs := hC
  refine lv_aload_n hx hb d0_init_25 rfl (lv_at hl 0 rfl) ?_
  refine lv_iconst (v := 0) hx hb d0_init_26 (by decide) ?_
  refine cr_put (v := .int 0) hx hb hw hown hK hC 3 rfl us0 tk0 nm0 (by decide) fl_0_22 (Or.inl rfl) rfl rfl (Nat.le_of_ble_eq_true rfl) d0_init_27 (fun H locs hC => ?_)
  have hC : c_B D aC (fun _ _ => 0) (fun _ _ => False) (fun q => q = h0 ∨ s.heap.size ≤ q) (fun _ _ _ => 0) (fun _ _ _ => 0) (fun _ _ => none) [(h0, .inr (0, [.ref q1, .ref q2, .int (-1), .int 0, .int 0, .int 0])), (q2, .inl (aC 0, 6, .inl (fun _ => 0))), (q1, .inl (aC 0, 6, .inl (fun _ => 0)))] s.heap H locs := hC
  refine lv_aload_n hx hb d0_init_30 rfl (lv_at hl 0 rfl) ?_
  refine lv_iconst (v := 0) hx hb d0_init_31 (by decide) ?_
  refine cr_put (v := .int 0) hx hb hw hown hK hC 4 rfl us0 tk0 nm0 (by decide) fl_0_25 (Or.inl rfl) rfl rfl (Nat.le_of_ble_eq_true rfl) d0_init_32 (fun H locs hC => ?_)
  have hC : c_B D aC (fun _ _ => 0) (fun _ _ => False) (fun q => q = h0 ∨ s.heap.size ≤ q) (fun _ _ _ => 0) (fun _ _ _ => 0) (fun _ _ => none) [(h0, .inr (0, [.ref q1, .ref q2, .int (-1), .int 0, .int 0, .int 0])), (q2, .inl (aC 0, 6, .inl (fun _ => 0))), (q1, .inl (aC 0, 6, .inl (fun _ => 0)))] s.heap H locs := hC
  refine lv_aload_n hx hb d0_init_35 rfl (lv_at hl 0 rfl) ?_
  refine lv_iconst (v := 0) hx hb d0_init_36 (by decide) ?_
  refine cr_put (v := .int 0) hx hb hw hown hK hC 5 rfl us0 tk0 nm0 (by decide) fl_0_28 (Or.inl rfl) rfl rfl (Nat.le_of_ble_eq_true rfl) d0_init_37 (fun H locs hC => ?_)
  have hC : c_B D aC (fun _ _ => 0) (fun _ _ => False) (fun q => q = h0 ∨ s.heap.size ≤ q) (fun _ _ _ => 0) (fun _ _ _ => 0) (fun _ _ => none) [(h0, .inr (0, [.ref q1, .ref q2, .int (-1), .int 0, .int 0, .int 0])), (q2, .inl (aC 0, 6, .inl (fun _ => 0))), (q1, .inl (aC 0, 6, .inl (fun _ => 0)))] s.heap H locs := hC
  exact W.vret hx hb hr (fun t ht hW => ⟨rfl, ⟨_, ⟨q1, q2, rfl⟩, fun q hq => ⟨by rw [ht]; exact (hC.2.2.1 q hq).1, (hC.2.2.1 q hq).2.1⟩, hC.2.2.2⟩, hC.1.2.2.1.F ht⟩) hC.1.2.2.1.2.2 d0_init_40 hlocks
theorem hd0_init : y0_init.cls ≠ "java/lang/invoke/MethodHandle" ∧ y0_init.cls ≠ "java/lang/invoke/VarHandle" ∧ (parseMethodDescriptor y0_init.desc).map (fun d => d.parameters.length) = some 0 := ⟨by decide, by decide, by decide +kernel⟩
