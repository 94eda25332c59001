/-! the law, from its entry to the head of its loop -/
def AR0 : sS := fun f n i => if f = 35 ∧ n = 0 ∧ i < 64 then -1 else 0
def X00 : Nat → Nat → Prop := Xm (xB 64) (xL LR)
def S00 : sS := Sm (SB 64) SR0
def A00 : sS := Sm (fun _ _ _ => 0) AR0
def G00 : sG := GB 64
theorem LR_ok : ∀ f ∈ LR, 20 ≤ f ∧ f < 60 ∧ fk f ≠ 3 := by decide +kernel
theorem hd6_init : y6_init.cls ≠ "java/lang/invoke/MethodHandle" ∧ y6_init.cls ≠ "java/lang/invoke/VarHandle" ∧ (parseMethodDescriptor y6_init.desc).map (fun d => d.parameters.length) = some 0 := ⟨by decide, by decide, by decide +kernel⟩
set_option maxRecDepth 100000 in
set_option maxHeartbeats 8000000 in
theorem law_begin {p : Program} {l : Launch} {e : Env} {s : State} {m : MethodId} {below : List Frame} {meth : Method} {c : Code} {D : va_G} {aC : Nat → ClassId} {b L : Nat} {xs : Nat → Int32} (C0 : lw_At p s m meth c b L xs) (hK : va_K D cls (tyl aC) s)
    (hloop : ∀ (ad : Nat → Nat → Nat) (H : Heap) (locs : List Loc) (ls : Array Slot), s_B D aC ad X00 (fun q => s.heap.size ≤ q) S00 A00 G00 s.heap H locs → lv_has ls 4 [(0, .ref b), (1, .ref (ad 0 0)), (2, .ref (ad 20 0)), (3, .int 0)] → W p l e room_1 s m #[Value.ref b] below meth c H locs 230 8578 (lw_Z below #[Value.ref b] s) (F0 m 18 ls [])) :
    W p l e room_1 s m #[Value.ref b] below meth c s.heap [] 0 0 (lw_Z below #[Value.ref b] s) (entryFrame m ([Value.ref b] : List Value).toArray 4) := by
  obtain ⟨hx, hb, hr, hml, hown, hts, hXs, hbl, hlocks, hgv⟩ := id C0
  have hown : s.vm.findClass RL = some m.cls := hown
  have hw : ∀ w ∈ wall, w.before #[Value.ref b] s = true := fun w h => hts w (List.mem_filter.mp h).1
  have hE := law_E hts
  have hZn : ∀ q, s.heap.size ≤ q → (fun q : Nat => s.heap.size ≤ q) q := fun _ h => h
  have hC : c_B D aC (fun _ _ => 0) (fun _ _ => False) (fun q : Nat => s.heap.size ≤ q) (fun _ _ _ => 0) (fun _ _ _ => 0) (fun _ _ => none) [] s.heap s.heap [] := ⟨⟨fun _ _ _ _ h => h.elim, fun _ _ h => h.elim, va_S.rf, fun _ _ h => h.elim⟩, ⟨fun _ _ _ h => h.elim, fun _ _ _ _ h => h.elim⟩, fun q h => (by cases h), List.nodup_nil⟩
  have hl := lv_entry [.ref b] (n := 4) (Nat.le_of_ble_eq_true rfl)
  rw [lg_entry_eq]
  generalize (lg_sl [.ref b] ++ List.replicate (4 - (lg_sl [.ref b]).length) Slot.unset).toArray = ls at hl ⊢
  have hl : lv_has ls 4 [(0, .ref b)] := hl
  refine cr_new (ci := 6) (fs := [.null, .null, .null, .null, .null, .null, .null, .null, .int 0, .int 0, .int 0, .int 0, .int 0, .int 0, .int 0]) hx hb hw hown hK hC hZn us6 tk6 cl_L_7 it_6 in_6 rfl (fun j hj => by rcases (show j = 0 ∨ j = 1 ∨ j = 2 ∨ j = 3 ∨ j = 4 ∨ j = 5 ∨ j = 6 ∨ j = 7 ∨ j = 8 ∨ j = 9 ∨ j = 10 ∨ j = 11 ∨ j = 12 ∨ j = 13 ∨ j = 14 by omega) with rfl | rfl | rfl | rfl | rfl | rfl | rfl | rfl | rfl | rfl | rfl | rfl | rfl | rfl | rfl <;> rfl) (by decide) (by decide) dL_law_0 (fun q H eq hC => ?_)
  refine lv_dup hx hb dL_law_3 rfl ?_
  refine cr_k (X2 := xB 64) (Ex := fun ad2 S2 A2 G2 => S2 = SB 64 ∧ A2 = (fun _ _ _ => 0) ∧ G2 = GB 64 ∧ s_L (xB 64) (GB 64) ∧ ad2 0 0 = q) (va_runI (Ts := wall) (As := []) (rest := [.ref q]) ⟨hx, hb, hml, hown, hw⟩ (m6_init q H.size) (cwI 0 hw (wall_in0 cd_6_init) rfl rfl rfl (hw _ in_6) (hw _ ml_L_9) (hw _ im_6_init) rfl hd6_init ⟨by decide, by decide⟩) ⟨c_blind e_C.call, c_pre hK (hC.2.2.1 _ List.mem_cons_self).1 (fun U hW => hE.warm hW)⟩ rfl rfl hl.1 rfl (lv_room (Nat.le_of_ble_eq_true rfl)) dL_law_4 ⟨by decide, by decide⟩) (fun st oc t h => by
    obtain ⟨g1, ⟨ad2, g2, g3, g4, g5, g6⟩, g7⟩ := h
    exact ⟨g1, ⟨ad2, SB 64, fun _ _ _ => 0, GB 64, g2, g3, ⟨rfl, rfl, rfl, g4, g5⟩, g6⟩, g7⟩) hC hZn (fun ad1 S1 A1 G1 H locs hB0 j1 j2 j3 j4 _ => ?_)
  obtain ⟨rfl, rfl, rfl, hLx, h00⟩ := j3
  have hB1 : s_B D aC ad1 (xB 64) (fun q : Nat => s.heap.size ≤ q) (SB 64) (fun _ _ _ => 0) (GB 64) s.heap H locs := ⟨j1, j2, hB0.2.2.1, j4⟩
  have hC : c_B D aC ad1 (xB 64) (fun q : Nat => s.heap.size ≤ q) (SB 64) (fun _ _ _ => 0) (GB 64) [] s.heap H locs := ⟨hB1, hLx, fun q h => (by cases h), List.nodup_nil⟩
  refine W.widen (k := 205) (n := 5081) (by decide) (by decide) ?_
  refine lv_astore_n (lv' := [(1, .ref q), (0, .ref b)]) hx hb dL_law_7 rfl hl (by decide) rfl (fun ls hl => ?_)
  refine cr_new (ci := 7) (fs := [.int 0, .null, .null, .null, .null, .null, .int 0, .int 0, .int 0, .int 0, .null, .null, .null, .null, .null, .null, .null, .null, .null, .null, .int 0, .null, .null, .null, .null, .null, .null, .int 0, .int 0, .int 0, .int 0, .int 0, .int 0, .int 0, .int 0, .null, .null, .int 0, .null]) hx hb hw hown hK hC hZn us7 tk7 cl_L_10 it_7 in_7 rfl (fun j hj => by rcases (show j = 0 ∨ j = 1 ∨ j = 2 ∨ j = 3 ∨ j = 4 ∨ j = 5 ∨ j = 6 ∨ j = 7 ∨ j = 8 ∨ j = 9 ∨ j = 10 ∨ j = 11 ∨ j = 12 ∨ j = 13 ∨ j = 14 ∨ j = 15 ∨ j = 16 ∨ j = 17 ∨ j = 18 ∨ j = 19 ∨ j = 20 ∨ j = 21 ∨ j = 22 ∨ j = 23 ∨ j = 24 ∨ j = 25 ∨ j = 26 ∨ j = 27 ∨ j = 28 ∨ j = 29 ∨ j = 30 ∨ j = 31 ∨ j = 32 ∨ j = 33 ∨ j = 34 ∨ j = 35 ∨ j = 36 ∨ j = 37 ∨ j = 38 by omega) with rfl | rfl | rfl | rfl | rfl | rfl | rfl | rfl | rfl | rfl | rfl | rfl | rfl | rfl | rfl | rfl | rfl | rfl | rfl | rfl | rfl | rfl | rfl | rfl | rfl | rfl | rfl | rfl | rfl | rfl | rfl | rfl | rfl | rfl | rfl | rfl | rfl | rfl | rfl <;> rfl) (by decide) (by decide) dL_law_8 (fun q' H eq' hC => ?_)
  refine lv_dup hx hb dL_law_11 rfl ?_
  refine cr_k (X2 := xL LR) (Ex := fun ad2 S2 A2 G2 => S2 = SR0 ∧ A2 = AR0 ∧ ad2 20 0 = q') (va_runI (Ts := wall) (As := []) (rest := [.ref q']) ⟨hx, hb, hml, hown, hw⟩ (m7_init q' H.size) (cwI 0 hw (wall_in0 cd_7_init) rfl rfl rfl (hw _ in_7) (hw _ ml_L_12) (hw _ im_7_init) rfl hd7_init ⟨by decide, by decide⟩) ⟨c_blind (fun _ _ _ _ h => h), c_pre hK (hC.2.2.1 _ List.mem_cons_self).1 (fun _ _ => trivial)⟩ rfl rfl hl.1 rfl (lv_room (Nat.le_of_ble_eq_true rfl)) dL_law_12 ⟨by decide, by decide⟩) (fun st oc t h => by
    obtain ⟨g1, ⟨ad2, S2, A2, G2, g2, g3, ⟨g4, g5, g6⟩, g7, g8⟩, g9⟩ := h
    exact ⟨g1, ⟨ad2, S2, A2, G2, g2, g3, ⟨g4, funext fun f => funext fun n => funext fun i => g5 f n i, g7⟩, g8⟩, g9⟩) hC hZn (fun ad2 S2 A2 G2 H locs hB j1 j2 j3 j4 j5 => ?_)
  obtain ⟨rfl, rfl, h20⟩ := j3
  have hM := s_merge hB j1 j2 j4 (fun f n h => h.elim (fun h => by have := (LC_lo h).1; omega) (fun h => by omega)) (fun f n h => LR_ok f h.1) j5
  refine W.widen (k := 230) (n := 8578) (by decide) (by decide) ?_
  have e0 : adm ad1 ad2 0 0 = q := h00
  have e20 : adm ad1 ad2 20 0 = q' := h20
  refine lv_astore_n (lv' := [(2, .ref q'), (1, .ref q), (0, .ref b)]) hx hb dL_law_15 rfl hl (by decide) rfl (fun ls hl => ?_)
  refine lv_iconst (v := 0) hx hb dL_law_16 (by decide) ?_
  refine lv_istore_n (lv' := [(3, .int 0), (2, .ref q'), (1, .ref q), (0, .ref b)]) hx hb dL_law_17 rfl hl (by decide) rfl (fun ls hl => ?_)
  exact hloop (adm ad1 ad2) H locs ls hM (by rw [e0, e20]; exact lv_sub hl [3, 2, 1, 0] rfl)
