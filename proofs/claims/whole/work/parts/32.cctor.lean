/-! the cabinet's constructor -/
theorem idx_bare (vm : Vm) (comp : ClassId) : (vm.bare.classes.findIdx? fun (x : Class) => match x.kind with | .array component _ => component == comp | _ => false) = (vm.classes.findIdx? fun (x : Class) => match x.kind with | .array component _ => component == comp | _ => false) := by
  simp only [Vm.bare, Array.findIdx?_map]
  rfl
theorem aoa_moved {u U : State} (hvm : u.vm.Alike U.vm) (h : (Cond.arrayOver (.array .int)).before #[] u = true) : (Cond.arrayOver (.array .int)).before #[] U = true := by
  obtain ⟨comp, c, k, h1, h2, h3, h4, h5⟩ := arrayOverA_spec h
  obtain ⟨k', hk', he⟩ := hvm.2.2 _ _ h3
  have hi : (U.vm.classes.findIdx? fun (x : Class) => match x.kind with | .array component _ => component == comp | _ => false) = some c := by
    rw [← idx_bare]
    first | rw [hvm.bare_eq] | rw [← hvm.bare_eq]
    rw [idx_bare]
    exact h2
  have hkind : k'.kind = .array comp (.array .int) := by rw [he]; exact h4
  have f1 : U.vm.findClass (FieldType.array .int).toString = some comp := by rw [hvm.findClass]; exact h1
  have f2 : U.vm.findClass ("[" ++ (FieldType.array .int).toString) = some c := by rw [hvm.findClass]; exact h5
  unfold Cond.before Cond.holds
  simp only [Cond.value]
  rw [f1, Option.bind_some]
  refine (congrArg (fun o : Option Nat => (o.bind (fun c => (U.vm.classes[c]?).map fun (k : Class) => match k.kind with | .array _ ty => decide (ty = FieldType.array .int) && decide (U.vm.findClass ("[" ++ (FieldType.array .int).toString) = some c) | _ => false) == some true)) hi).trans ?_
  simp [hk', hkind, f2]
def xP (l : List (Nat × Nat)) : Nat → Nat → Prop := fun f n => (f, n) ∈ l
theorem xP_c {l : List (Nat × Nat)} {f n : Nat} : Xx (xP l) f n = xP ((f, n) :: l) := by
  funext f1 n1
  apply propext
  constructor
  · intro h
    rcases h with h | ⟨rfl, rfl⟩
    · exact List.mem_cons_of_mem _ h
    · exact List.mem_cons_self
  · intro h
    rcases List.mem_cons.mp h with e | e
    · exact Or.inr ⟨congrArg Prod.fst e, congrArg Prod.snd e⟩
    · exact Or.inl e
theorem xP_0 : (fun _ _ => False : Nat → Nat → Prop) = xP [] := by
  funext f n
  apply propext
  constructor
  · intro h; exact h.elim
  · intro h; exact absurd h List.not_mem_nil
theorem c_perm {D : va_G} {aC : Nat → ClassId} {ad : Nat → Nat → Nat} {X : Nat → Nat → Prop} {Z : Nat → Prop} {S A : sS} {G : sG} {ws ws1 : va_W} {H0 H : Heap} {locs : List Loc} (h : c_B D aC ad X Z S A G ws H0 H locs) (hp : ws.Perm ws1) : c_B D aC ad X Z S A G ws1 H0 H locs := by
  obtain ⟨h1, h2, h3, h4⟩ := h
  exact ⟨h1, h2, fun q hq => h3 q (hp.mem_iff.mpr hq), (hp.map _).nodup_iff.mp h4⟩
/-- what the tables must say besides the wall -/
def e_C (U : State) : Prop := va_AO R5 U ∧ va_AO R1 U ∧ va_AO R0 U ∧ va_AO R3 U ∧ (Cond.arrayOver (.array .int)).before #[] U = true ∧ va_Nw (.methodLinkNest R6 35 y4_init "DispenseCabinet") U ∧ va_Nw (.methodLinkNest R6 42 y2_init "DispenseCabinet") U ∧ va_Nw (.methodLinkNest R6 76 y0_init "DispenseCabinet") U
def GC0 : sG := fun f i => if f = 10 ∧ i < 2 then some i else none
def SC1 : sS := upO (fun _ _ _ => 0) 5 0 [-1, -1, -1, 0, 0, 0, 0]
def SC0 : sS := upO SC1 0 0 [0, 0, 0, 0, 0, 0, 0, 0, 0, -1, 0, -1, 0, 0, 0]
theorem fr5 (k : Nat) : fr 5 k = 0 := rfl
theorem fr0 : ∀ k, k < 15 → fr 0 k ≠ 0 → (fr 0 k, 0) ∈ ([(8, 0), (7, 0), (6, 0), (9, 0), (10, 0), (11, 0), (11, 1), (5, 0), (4, 0), (3, 0), (2, 0), (1, 0)] : List (Nat × Nat)) := by decide +kernel
set_option maxRecDepth 100000 in
set_option maxHeartbeats 8000000 in
theorem m6_init_open {l : Launch} {D : va_G} {aC : Nat → ClassId} {Qc : Array Value → State → Outcome → State → Prop} (h0 sz : Nat) : Met l y6_init (.code y6_init b6_init 2 none :: wall) { frames := 3, cells := 204, slots := 5066, locals := 120 } (c_Pc D aC [.ref h0] h0 (.inr (6, [.null, .null, .null, .null, .null, .null, .null, .null, .int 0, .int 0, .int 0, .int 0, .int 0, .int 0, .int 0])) sz e_C) Qc 204 5066 (fun q => q = h0 ∨ sz ≤ q) := by
  refine Met.ofW (cc := b6_init) (maxL := 2) (ret := none) (by decide) rfl ?_
  intro p e s m args below meth c s₁ B hml hv
  obtain ⟨rfl, rfl, hat, hK, hE⟩ := hv
  have hx := B.exec
  have hb := B.bytes
  have hr := B.returns
  have hlocks := B.notSynchronized
  have hw : ∀ w ∈ wall, w.before _ s = true := fun w h => atoms_spec (ws := .code y6_init b6_init 2 none :: wall) B.pre w (List.mem_cons_of_mem _ h)
  have hown : s.vm.findClass R6 = some m.cls := findClass_of_methodNamed B.named
  have hin : meth.name = "<init>" := (name_of_methodNamed B.named B.method).1
  have hC := c_start (D := D) (aC := aC) hat
  have hZn : ∀ q, s.heap.size ≤ q → (fun q => q = h0 ∨ s.heap.size ≤ q) q := fun q h => Or.inr h
  have hl := lv_entry [.ref h0] (n := 2) (Nat.le_of_ble_eq_true rfl)
  rw [lg_entry_eq]
  generalize (lg_sl [.ref h0] ++ List.replicate (2 - (lg_sl [.ref h0]).length) Slot.unset).toArray = ls at hl ⊢
  have hl : lv_has ls 2 [(0, .ref h0)] := hl
  have hC : c_B D aC (fun _ _ => 0) (xP []) (fun q => q = h0 ∨ s.heap.size ≤ q) (fun _ _ _ => 0) (fun _ _ _ => 0) (fun _ _ => none) [(h0, .inr (6, [.null, .null, .null, .null, .null, .null, .null, .null, .int 0, .int 0, .int 0, .int 0, .int 0, .int 0, .int 0]))] s.heap s.heap [] := by rw [← xP_0]; exact hC
  obtain ⟨ad0, had0⟩ : ∃ z : Nat → Nat → Nat, z = fun _ _ => 0 := ⟨_, rfl⟩
  rw [← had0] at hC
  refine lv_aload_n hx hb d6_init_0 rfl (lv_at hl 0 rfl) ?_
  refine W.objInit hx hb hown (hw _ ml_6_1) (hw _ im_O_init) (hw _ cd_O_init) rfl (by rw [hml]; exact hl.1) rfl d6_init_1 (Nat.le_of_ble_eq_true rfl) (Nat.le_of_ble_eq_true rfl) ?_
  refine W.eq (g2 := F0 m 4 ls []) rfl ?_
  refine lv_aload_n hx hb d6_init_4 rfl (lv_at hl 0 rfl) ?_
  refine lv_bipush (v := 16) hx hb d6_init_5 (by decide) ?_
  refine cr_newq (t0 := 2) (N := 16) hx hb hown (hw _ cl_6_9) hE.1 hK hC hZn rfl (by decide) (by decide) (by decide) (by decide) (by decide) d6_init_7 (fun q1 H eq1 hC => ?_)
  have hC := c_abs hC 1 0 (show ¬ (1, 0) ∈ ([] : List (Nat × Nat)) by decide) (fun _ _ _ => 0) (fun _ _ _ => 0) (fun _ _ => none) (fun _ _ _ _ => rfl) (fun _ _ _ _ => rfl) (fun _ _ _ _ => rfl) (c_arq (f0 := 1) (n0 := 0) (hC.2.2.1 _ List.mem_cons_self).1 ⟨rfl, rfl, rfl⟩ adx_s (fun _ _ => rfl)) (fun h => absurd h (by decide)) (fun _ i m _ h => by cases h)
  rw [xP_c] at hC
  obtain ⟨ad1, had1⟩ : ∃ z : Nat → Nat → Nat, z = adx ad0 1 0 q1 := ⟨_, rfl⟩
  rw [← had1] at hC
  refine W.widen (k := 1) (n := 16) (by decide) (by decide) ?_
  refine cr_put (v := .ref q1) hx hb hw hown hK hC 0 rfl us6 tk6 nm6 (by decide) fl_6_11 (Or.inr ⟨rfl, hin, rfl⟩) rfl rfl (Nat.le_of_ble_eq_true rfl) d6_init_10 (fun H locs hC => ?_)
  have hC : c_B D aC ad1 (xP [(1, 0)]) (fun q => q = h0 ∨ s.heap.size ≤ q) (fun _ _ _ => 0) (fun _ _ _ => 0) (fun _ _ => none) [(h0, .inr (6, [.ref q1, .null, .null, .null, .null, .null, .null, .null, .int 0, .int 0, .int 0, .int 0, .int 0, .int 0, .int 0]))] s.heap H locs := hC
  refine lv_aload_n hx hb d6_init_13 rfl (lv_at hl 0 rfl) ?_
  refine lv_bipush (v := 32) hx hb d6_init_14 (by decide) ?_
  refine cr_newq (t0 := 3) (N := 32) hx hb hown (hw _ cl_6_15) hE.2.1 hK hC hZn rfl (by decide) (by decide) (by decide) (by decide) (by decide) d6_init_16 (fun q2 H eq2 hC => ?_)
  have hC := c_abs hC 2 0 (show ¬ (2, 0) ∈ ([(1, 0)] : List (Nat × Nat)) by decide) (fun _ _ _ => 0) (fun _ _ _ => 0) (fun _ _ => none) (fun _ _ _ _ => rfl) (fun _ _ _ _ => rfl) (fun _ _ _ _ => rfl) (c_arq (f0 := 2) (n0 := 0) (hC.2.2.1 _ List.mem_cons_self).1 ⟨rfl, rfl, rfl⟩ adx_s (fun _ _ => rfl)) (fun h => absurd h (by decide)) (fun _ i m _ h => by cases h)
  rw [xP_c] at hC
  obtain ⟨ad2, had2⟩ : ∃ z : Nat → Nat → Nat, z = adx ad1 2 0 q2 := ⟨_, rfl⟩
  rw [← had2] at hC
  refine W.widen (k := 2) (n := 48) (by decide) (by decide) ?_
  refine cr_put (v := .ref q2) hx hb hw hown hK hC 1 rfl us6 tk6 nm6 (by decide) fl_6_17 (Or.inr ⟨rfl, hin, rfl⟩) rfl rfl (Nat.le_of_ble_eq_true rfl) d6_init_19 (fun H locs hC => ?_)
  have hC : c_B D aC ad2 (xP [(2, 0), (1, 0)]) (fun q => q = h0 ∨ s.heap.size ≤ q) (fun _ _ _ => 0) (fun _ _ _ => 0) (fun _ _ => none) [(h0, .inr (6, [.ref q1, .ref q2, .null, .null, .null, .null, .null, .null, .int 0, .int 0, .int 0, .int 0, .int 0, .int 0, .int 0]))] s.heap H locs := hC
  refine lv_aload_n hx hb d6_init_22 rfl (lv_at hl 0 rfl) ?_
  refine lv_bipush (v := 64) hx hb d6_init_23 (by decide) ?_
  refine cr_newq (t0 := 4) (N := 64) hx hb hown (hw _ cl_6_21) hE.2.2.1 hK hC hZn rfl (by decide) (by decide) (by decide) (by decide) (by decide) d6_init_25 (fun q3 H eq3 hC => ?_)
  have hC := c_abs hC 3 0 (show ¬ (3, 0) ∈ ([(2, 0), (1, 0)] : List (Nat × Nat)) by decide) (fun _ _ _ => 0) (fun _ _ _ => 0) (fun _ _ => none) (fun _ _ _ _ => rfl) (fun _ _ _ _ => rfl) (fun _ _ _ _ => rfl) (c_arq (f0 := 3) (n0 := 0) (hC.2.2.1 _ List.mem_cons_self).1 ⟨rfl, rfl, rfl⟩ adx_s (fun _ _ => rfl)) (fun h => absurd h (by decide)) (fun _ i m _ h => by cases h)
  rw [xP_c] at hC
  obtain ⟨ad3, had3⟩ : ∃ z : Nat → Nat → Nat, z = adx ad2 3 0 q3 := ⟨_, rfl⟩
  rw [← had3] at hC
  refine W.widen (k := 3) (n := 112) (by decide) (by decide) ?_
  refine cr_put (v := .ref q3) hx hb hw hown hK hC 2 rfl us6 tk6 nm6 (by decide) fl_6_23 (Or.inr ⟨rfl, hin, rfl⟩) rfl rfl (Nat.le_of_ble_eq_true rfl) d6_init_28 (fun H locs hC => ?_)
  have hC : c_B D aC ad3 (xP [(3, 0), (2, 0), (1, 0)]) (fun q => q = h0 ∨ s.heap.size ≤ q) (fun _ _ _ => 0) (fun _ _ _ => 0) (fun _ _ => none) [(h0, .inr (6, [.ref q1, .ref q2, .ref q3, .null, .null, .null, .null, .null, .int 0, .int 0, .int 0, .int 0, .int 0, .int 0, .int 0]))] s.heap H locs := hC
  refine lv_aload_n hx hb d6_init_31 rfl (lv_at hl 0 rfl) ?_
  refine lv_bipush (v := 60) hx hb d6_init_32 (by decide) ?_
  refine cr_newq (t0 := 5) (N := 60) hx hb hown (hw _ cl_6_27) hE.2.2.2.1 hK hC hZn rfl (by decide) (by decide) (by decide) (by decide) (by decide) d6_init_34 (fun q4 H eq4 hC => ?_)
  have hC := c_abs hC 4 0 (show ¬ (4, 0) ∈ ([(3, 0), (2, 0), (1, 0)] : List (Nat × Nat)) by decide) (fun _ _ _ => 0) (fun _ _ _ => 0) (fun _ _ => none) (fun _ _ _ _ => rfl) (fun _ _ _ _ => rfl) (fun _ _ _ _ => rfl) (c_arq (f0 := 4) (n0 := 0) (hC.2.2.1 _ List.mem_cons_self).1 ⟨rfl, rfl, rfl⟩ adx_s (fun _ _ => rfl)) (fun h => absurd h (by decide)) (fun _ i m _ h => by cases h)
  rw [xP_c] at hC
  obtain ⟨ad4, had4⟩ : ∃ z : Nat → Nat → Nat, z = adx ad3 4 0 q4 := ⟨_, rfl⟩
  rw [← had4] at hC
  refine W.widen (k := 4) (n := 172) (by decide) (by decide) ?_
  refine cr_put (v := .ref q4) hx hb hw hown hK hC 3 rfl us6 tk6 nm6 (by decide) fl_6_29 (Or.inr ⟨rfl, hin, rfl⟩) rfl rfl (Nat.le_of_ble_eq_true rfl) d6_init_37 (fun H locs hC => ?_)
  have hC : c_B D aC ad4 (xP [(4, 0), (3, 0), (2, 0), (1, 0)]) (fun q => q = h0 ∨ s.heap.size ≤ q) (fun _ _ _ => 0) (fun _ _ _ => 0) (fun _ _ => none) [(h0, .inr (6, [.ref q1, .ref q2, .ref q3, .ref q4, .null, .null, .null, .null, .int 0, .int 0, .int 0, .int 0, .int 0, .int 0, .int 0]))] s.heap H locs := hC
  refine lv_aload_n hx hb d6_init_40 rfl (lv_at hl 0 rfl) ?_
  refine cr_new (ci := 4) (fs := [.int 0, .int 0, .int 0, .int 0, .int 0, .int 0, .int 0]) hx hb hw hown hK hC hZn us4 tk4 cl_6_33 it_4 in_4 rfl (fun j hj => by rcases (show j = 0 ∨ j = 1 ∨ j = 2 ∨ j = 3 ∨ j = 4 ∨ j = 5 ∨ j = 6 by omega) with rfl | rfl | rfl | rfl | rfl | rfl | rfl <;> rfl) (by decide) (by decide) d6_init_41 (fun q5 H eq5 hC => ?_)
  refine W.widen (k := 5) (n := 179) (by decide) (by decide) ?_
  refine lv_dup hx hb d6_init_44 rfl ?_
  refine cr_init (va_runIN (Ts := wall) (As := []) (rest := [.ref q5, .ref h0]) ⟨hx, hb, hml, hown, hw⟩ (m4_init q5 H.size) ⟨va_cnB 0 hw (wall_in0 cd_4_init) rfl rfl rfl hE.2.2.2.2.2.1 (hw _ in_4) hd4_init ⟨by decide, by decide⟩, rfl, hw _ im_4_init⟩ ⟨c_blind (fun _ _ _ _ h => h), c_pre hK (hC.2.2.1 _ List.mem_cons_self).1 (fun _ _ => trivial)⟩ rfl rfl hl.1 rfl (lv_room (Nat.le_of_ble_eq_true rfl)) d6_init_45 ⟨by decide, by decide⟩) hC hZn (fun w1 H locs hw1 hC => ?_)
  subst hw1
  have hC := c_abs hC 5 0 (show ¬ (5, 0) ∈ ([(4, 0), (3, 0), (2, 0), (1, 0)] : List (Nat × Nat)) by decide) SC1 (fun _ _ _ => 0) (fun _ _ => none) (fun f n k h => upO_n (fun z => by have h9 : (f, n) ∈ ([(4, 0), (3, 0), (2, 0), (1, 0)] : List (Nat × Nat)) := h; rw [z.1, z.2] at h9; exact absurd h9 (by decide))) (fun _ _ _ _ => rfl) (fun _ _ _ _ => rfl) (c_cell (f0 := 5) (n0 := 0) (hC.2.2.1 _ List.mem_cons_self).1 ⟨rfl, rfl, rfl, rfl⟩ adx_s (fun k hk => by rcases (show k = 0 ∨ k = 1 ∨ k = 2 ∨ k = 3 ∨ k = 4 ∨ k = 5 ∨ k = 6 by omega) with rfl | rfl | rfl | rfl | rfl | rfl | rfl <;> rfl)) (fun _ k hk h => absurd (fr5 k) h) (fun h => absurd h (by decide))
  rw [xP_c] at hC
  obtain ⟨ad5, had5⟩ : ∃ z : Nat → Nat → Nat, z = adx ad4 5 0 q5 := ⟨_, rfl⟩
  rw [← had5] at hC
  refine W.widen (k := 5) (n := 179) (by decide) (by decide) ?_
  have hC : c_B D aC ad5 (xP [(5, 0), (4, 0), (3, 0), (2, 0), (1, 0)]) (fun q => q = h0 ∨ s.heap.size ≤ q) SC1 (fun _ _ _ => 0) (fun _ _ => none) [(h0, .inr (6, [.ref q1, .ref q2, .ref q3, .ref q4, .null, .null, .null, .null, .int 0, .int 0, .int 0, .int 0, .int 0, .int 0, .int 0]))] s.heap H locs := hC
  refine cr_put (v := .ref q5) hx hb hw hown hK hC 4 rfl us6 tk6 nm6 (by decide) fl_6_36 (Or.inr ⟨rfl, hin, rfl⟩) rfl rfl (Nat.le_of_ble_eq_true rfl) d6_init_48 (fun H locs hC => ?_)
  have hC : c_B D aC ad5 (xP [(5, 0), (4, 0), (3, 0), (2, 0), (1, 0)]) (fun q => q = h0 ∨ s.heap.size ≤ q) SC1 (fun _ _ _ => 0) (fun _ _ => none) [(h0, .inr (6, [.ref q1, .ref q2, .ref q3, .ref q4, .ref q5, .null, .null, .null, .int 0, .int 0, .int 0, .int 0, .int 0, .int 0, .int 0]))] s.heap H locs := hC
  refine lv_aload_n hx hb d6_init_51 rfl (lv_at hl 0 rfl) ?_
  refine cr_new (ci := 2) (fs := [.null, .int 0, .null]) hx hb hw hown hK hC hZn us2 tk2 cl_6_40 it_2 in_2 rfl (fun j hj => by rcases (show j = 0 ∨ j = 1 ∨ j = 2 by omega) with rfl | rfl | rfl <;> rfl) (by decide) (by decide) d6_init_52 (fun q6 H eq6 hC => ?_)
  refine W.widen (k := 6) (n := 182) (by decide) (by decide) ?_
  refine lv_dup hx hb d6_init_55 rfl ?_
  refine cr_init (va_runIN (Ts := wall) (As := []) (rest := [.ref q6, .ref h0]) ⟨hx, hb, hml, hown, hw⟩ (m2_init q6 H.size) ⟨va_cnB 0 hw (wall_in0 cd_2_init) rfl rfl rfl hE.2.2.2.2.2.2.1 (hw _ in_2) hd2_init ⟨by decide, by decide⟩, rfl, hw _ im_2_init⟩ ⟨c_blind (fun _ _ _ _ h => h), c_pre hK (hC.2.2.1 _ List.mem_cons_self).1 (fun U hW => aoa_moved hW.alike hE.2.2.2.2.1)⟩ rfl rfl hl.1 rfl (lv_room (Nat.le_of_ble_eq_true rfl)) d6_init_56 ⟨by decide, by decide⟩) hC hZn (fun w1 H locs hw1 hC => ?_)
  obtain ⟨p1, p2, rfl⟩ := hw1
  have hC := c_perm hC (List.Perm.append_right _ (List.reverse_perm _).symm)
  have hC : c_B D aC ad5 (xP [(5, 0), (4, 0), (3, 0), (2, 0), (1, 0)]) (fun q => q = h0 ∨ s.heap.size ≤ q) SC1 (fun _ _ _ => 0) (fun _ _ => none) [(p2 + 2, .inl (aC 0, 1800, .inl (fun _ => 0))), (p2 + 1, .inl (aC 0, 1800, .inl (fun _ => 0))), (p2, .inl (aC 6, 2, .inr (.inr (.inr (.inr (fun i => if i < 2 then some (p2 + 1 + i) else none)))))), (p1, .inl (aC 1, 2, .inl (fun _ => 0))), (q6, .inr (2, [.ref p1, .int 0, .ref p2])), (h0, .inr (6, [.ref q1, .ref q2, .ref q3, .ref q4, .ref q5, .null, .null, .null, .int 0, .int 0, .int 0, .int 0, .int 0, .int 0, .int 0]))] s.heap H locs := hC
  have hC := c_abs hC 11 1 (show ¬ (11, 1) ∈ ([(5, 0), (4, 0), (3, 0), (2, 0), (1, 0)] : List (Nat × Nat)) by decide) SC1 (fun _ _ _ => 0) (fun _ _ => none) (fun _ _ _ _ => rfl) (fun _ _ _ _ => rfl) (fun _ _ _ _ => rfl) (c_arr (f0 := 11) (n0 := 1) (hC.2.2.1 _ List.mem_cons_self).1 ⟨by decide, rfl, rfl⟩ adx_s (fun _ _ => rfl)) (fun h => absurd h (by decide)) (fun h => absurd h (by decide))
  rw [xP_c] at hC
  obtain ⟨ad6, had6⟩ : ∃ z : Nat → Nat → Nat, z = adx ad5 11 1 (p2 + 2) := ⟨_, rfl⟩
  rw [← had6] at hC
  have hC := c_abs hC 11 0 (show ¬ (11, 0) ∈ ([(11, 1), (5, 0), (4, 0), (3, 0), (2, 0), (1, 0)] : List (Nat × Nat)) by decide) SC1 (fun _ _ _ => 0) (fun _ _ => none) (fun _ _ _ _ => rfl) (fun _ _ _ _ => rfl) (fun _ _ _ _ => rfl) (c_arr (f0 := 11) (n0 := 0) (hC.2.2.1 _ List.mem_cons_self).1 ⟨by decide, rfl, rfl⟩ adx_s (fun _ _ => rfl)) (fun h => absurd h (by decide)) (fun h => absurd h (by decide))
  rw [xP_c] at hC
  obtain ⟨ad7, had7⟩ : ∃ z : Nat → Nat → Nat, z = adx ad6 11 0 (p2 + 1) := ⟨_, rfl⟩
  rw [← had7] at hC
  have r0 : ad7 11 0 = (p2 + 1) := by rw [had7, adx_s]
  have r1 : ad7 11 1 = (p2 + 2) := by rw [had7, adx_k (f0 := 11) (n0 := 0) (f := 11) (n := 1) (by decide), had6, adx_s]
  have hC := c_abs hC 10 0 (show ¬ (10, 0) ∈ ([(11, 0), (11, 1), (5, 0), (4, 0), (3, 0), (2, 0), (1, 0)] : List (Nat × Nat)) by decide) SC1 (fun _ _ _ => 0) GC0 (fun _ _ _ _ => rfl) (fun _ _ _ _ => rfl) (fun f n i h => if_neg (fun z => by have h9 : (f, n) ∈ ([(11, 0), (11, 1), (5, 0), (4, 0), (3, 0), (2, 0), (1, 0)] : List (Nat × Nat)) := h; rw [z.1] at h9; simp at h9)) (c_arq (f0 := 10) (n0 := 0) (hC.2.2.1 _ List.mem_cons_self).1 ⟨rfl, rfl, rfl⟩ adx_s (fun i hi => by rcases (show i = 0 ∨ i = 1 by omega) with rfl | rfl; exact congrArg some r0.symm; exact congrArg some r1.symm)) (fun h => absurd h (by decide)) (fun _ i m hi h => by rcases (show i = 0 ∨ i = 1 from (by have h8 : i < 2 := hi; omega)) with rfl | rfl <;> (cases h; show (_, _) ∈ (_ : List (Nat × Nat)); decide))
  rw [xP_c] at hC
  obtain ⟨ad8, had8⟩ : ∃ z : Nat → Nat → Nat, z = adx ad7 10 0 p2 := ⟨_, rfl⟩
  rw [← had8] at hC
  have hC := c_abs hC 9 0 (show ¬ (9, 0) ∈ ([(10, 0), (11, 0), (11, 1), (5, 0), (4, 0), (3, 0), (2, 0), (1, 0)] : List (Nat × Nat)) by decide) SC1 (fun _ _ _ => 0) GC0 (fun _ _ _ _ => rfl) (fun _ _ _ _ => rfl) (fun _ _ _ _ => rfl) (c_arr (f0 := 9) (n0 := 0) (hC.2.2.1 _ List.mem_cons_self).1 ⟨by decide, rfl, rfl⟩ adx_s (fun _ _ => rfl)) (fun h => absurd h (by decide)) (fun h => absurd h (by decide))
  rw [xP_c] at hC
  obtain ⟨ad9, had9⟩ : ∃ z : Nat → Nat → Nat, z = adx ad8 9 0 p1 := ⟨_, rfl⟩
  rw [← had9] at hC
  have r9 : ad9 9 0 = p1 := by rw [had9, adx_s]
  have r10 : ad9 10 0 = p2 := by rw [had9, adx_k (f0 := 9) (n0 := 0) (f := 10) (n := 0) (by decide), had8, adx_s]
  have hC := c_abs hC 6 0 (show ¬ (6, 0) ∈ ([(9, 0), (10, 0), (11, 0), (11, 1), (5, 0), (4, 0), (3, 0), (2, 0), (1, 0)] : List (Nat × Nat)) by decide) SC1 (fun _ _ _ => 0) GC0 (fun _ _ _ _ => rfl) (fun _ _ _ _ => rfl) (fun _ _ _ _ => rfl) (c_cell (f0 := 6) (n0 := 0) (hC.2.2.1 _ List.mem_cons_self).1 ⟨rfl, rfl, rfl, rfl⟩ adx_s (fun k hk => by rcases (show k = 0 ∨ k = 1 ∨ k = 2 by omega) with rfl | rfl | rfl; exact congrArg Value.ref r9.symm; rfl; exact congrArg Value.ref r10.symm)) (fun _ k hk h => by rcases (show k = 0 ∨ k = 1 ∨ k = 2 from (by have h8 : k < 3 := hk; omega)) with rfl | rfl | rfl; (show (_, _) ∈ (_ : List (Nat × Nat)); decide); exact absurd rfl h; (show (_, _) ∈ (_ : List (Nat × Nat)); decide)) (fun h => absurd h (by decide))
  rw [xP_c] at hC
  obtain ⟨ad10, had10⟩ : ∃ z : Nat → Nat → Nat, z = adx ad9 6 0 q6 := ⟨_, rfl⟩
  rw [← had10] at hC
  refine W.widen (k := 10) (n := 3786) (by decide) (by decide) ?_
  have hC : c_B D aC ad10 (xP [(6, 0), (9, 0), (10, 0), (11, 0), (11, 1), (5, 0), (4, 0), (3, 0), (2, 0), (1, 0)]) (fun q => q = h0 ∨ s.heap.size ≤ q) SC1 (fun _ _ _ => 0) GC0 [(h0, .inr (6, [.ref q1, .ref q2, .ref q3, .ref q4, .ref q5, .null, .null, .null, .int 0, .int 0, .int 0, .int 0, .int 0, .int 0, .int 0]))] s.heap H locs := hC
  refine cr_put (v := .ref q6) hx hb hw hown hK hC 5 rfl us6 tk6 nm6 (by decide) fl_6_43 (Or.inr ⟨rfl, hin, rfl⟩) rfl rfl (Nat.le_of_ble_eq_true rfl) d6_init_59 (fun H locs hC => ?_)
  have hC : c_B D aC ad10 (xP [(6, 0), (9, 0), (10, 0), (11, 0), (11, 1), (5, 0), (4, 0), (3, 0), (2, 0), (1, 0)]) (fun q => q = h0 ∨ s.heap.size ≤ q) SC1 (fun _ _ _ => 0) GC0 [(h0, .inr (6, [.ref q1, .ref q2, .ref q3, .ref q4, .ref q5, .ref q6, .null, .null, .int 0, .int 0, .int 0, .int 0, .int 0, .int 0, .int 0]))] s.heap H locs := hC
  refine lv_aload_n hx hb d6_init_62 rfl (lv_at hl 0 rfl) ?_
  refine lv_bipush (v := 64) hx hb d6_init_63 (by decide) ?_
  refine cr_newa (atype := .int) (ty := .int) (t0 := 0) (N := 64) hx hb rfl (hw _ ac_int) hK hC hZn rfl (hK.2 0 _ rfl).2 rfl (by decide) (by decide) (by decide) (by decide) (by decide) d6_init_65 (fun q7 H eq7 hC => ?_)
  have hC := c_abs hC 7 0 (show ¬ (7, 0) ∈ ([(6, 0), (9, 0), (10, 0), (11, 0), (11, 1), (5, 0), (4, 0), (3, 0), (2, 0), (1, 0)] : List (Nat × Nat)) by decide) SC1 (fun _ _ _ => 0) GC0 (fun _ _ _ _ => rfl) (fun _ _ _ _ => rfl) (fun _ _ _ _ => rfl) (c_arr (f0 := 7) (n0 := 0) (hC.2.2.1 _ List.mem_cons_self).1 ⟨by decide, rfl, rfl⟩ adx_s (fun _ _ => rfl)) (fun h => absurd h (by decide)) (fun h => absurd h (by decide))
  rw [xP_c] at hC
  obtain ⟨ad11, had11⟩ : ∃ z : Nat → Nat → Nat, z = adx ad10 7 0 q7 := ⟨_, rfl⟩
  rw [← had11] at hC
  refine W.widen (k := 11) (n := 3850) (by decide) (by decide) ?_
  refine cr_put (v := .ref q7) hx hb hw hown hK hC 6 rfl us6 tk6 nm6 (by decide) fl_6_47 (Or.inr ⟨rfl, hin, rfl⟩) rfl rfl (Nat.le_of_ble_eq_true rfl) d6_init_67 (fun H locs hC => ?_)
  have hC : c_B D aC ad11 (xP [(7, 0), (6, 0), (9, 0), (10, 0), (11, 0), (11, 1), (5, 0), (4, 0), (3, 0), (2, 0), (1, 0)]) (fun q => q = h0 ∨ s.heap.size ≤ q) SC1 (fun _ _ _ => 0) GC0 [(h0, .inr (6, [.ref q1, .ref q2, .ref q3, .ref q4, .ref q5, .ref q6, .ref q7, .null, .int 0, .int 0, .int 0, .int 0, .int 0, .int 0, .int 0]))] s.heap H locs := hC
  refine lv_aload_n hx hb d6_init_70 rfl (lv_at hl 0 rfl) ?_
  refine lv_bipush (v := 64) hx hb d6_init_71 (by decide) ?_
  refine cr_newa (atype := .int) (ty := .int) (t0 := 0) (N := 64) hx hb rfl (hw _ ac_int) hK hC hZn rfl (hK.2 0 _ rfl).2 rfl (by decide) (by decide) (by decide) (by decide) (by decide) d6_init_73 (fun q8 H eq8 hC => ?_)
  have hC := c_abs hC 8 0 (show ¬ (8, 0) ∈ ([(7, 0), (6, 0), (9, 0), (10, 0), (11, 0), (11, 1), (5, 0), (4, 0), (3, 0), (2, 0), (1, 0)] : List (Nat × Nat)) by decide) SC1 (fun _ _ _ => 0) GC0 (fun _ _ _ _ => rfl) (fun _ _ _ _ => rfl) (fun _ _ _ _ => rfl) (c_arr (f0 := 8) (n0 := 0) (hC.2.2.1 _ List.mem_cons_self).1 ⟨by decide, rfl, rfl⟩ adx_s (fun _ _ => rfl)) (fun h => absurd h (by decide)) (fun h => absurd h (by decide))
  rw [xP_c] at hC
  obtain ⟨ad12, had12⟩ : ∃ z : Nat → Nat → Nat, z = adx ad11 8 0 q8 := ⟨_, rfl⟩
  rw [← had12] at hC
  refine W.widen (k := 12) (n := 3914) (by decide) (by decide) ?_
  refine cr_put (v := .ref q8) hx hb hw hown hK hC 7 rfl us6 tk6 nm6 (by decide) fl_6_51 (Or.inr ⟨rfl, hin, rfl⟩) rfl rfl (Nat.le_of_ble_eq_true rfl) d6_init_75 (fun H locs hC => ?_)
  have hC : c_B D aC ad12 (xP [(8, 0), (7, 0), (6, 0), (9, 0), (10, 0), (11, 0), (11, 1), (5, 0), (4, 0), (3, 0), (2, 0), (1, 0)]) (fun q => q = h0 ∨ s.heap.size ≤ q) SC1 (fun _ _ _ => 0) GC0 [(h0, .inr (6, [.ref q1, .ref q2, .ref q3, .ref q4, .ref q5, .ref q6, .ref q7, .ref q8, .int 0, .int 0, .int 0, .int 0, .int 0, .int 0, .int 0]))] s.heap H locs := hC
  refine lv_aload_n hx hb d6_init_78 rfl (lv_at hl 0 rfl) ?_
  refine lv_iconst (v := 0) hx hb d6_init_79 (by decide) ?_
  refine cr_put (v := .int 0) hx hb hw hown hK hC 8 rfl us6 tk6 nm6 (by decide) fl_6_54 (Or.inl rfl) rfl rfl (Nat.le_of_ble_eq_true rfl) d6_init_80 (fun H locs hC => ?_)
  have hC : c_B D aC ad12 (xP [(8, 0), (7, 0), (6, 0), (9, 0), (10, 0), (11, 0), (11, 1), (5, 0), (4, 0), (3, 0), (2, 0), (1, 0)]) (fun q => q = h0 ∨ s.heap.size ≤ q) SC1 (fun _ _ _ => 0) GC0 [(h0, .inr (6, [.ref q1, .ref q2, .ref q3, .ref q4, .ref q5, .ref q6, .ref q7, .ref q8, .int 0, .int 0, .int 0, .int 0, .int 0, .int 0, .int 0]))] s.heap H locs := hC
  refine lv_aload_n hx hb d6_init_83 rfl (lv_at hl 0 rfl) ?_
  refine lv_iconst (v := (-1)) hx hb d6_init_84 (by decide) ?_
  refine cr_put (v := .int (-1)) hx hb hw hown hK hC 9 rfl us6 tk6 nm6 (by decide) fl_6_58 (Or.inl rfl) rfl rfl (Nat.le_of_ble_eq_true rfl) d6_init_85 (fun H locs hC => ?_)
  have hC : c_B D aC ad12 (xP [(8, 0), (7, 0), (6, 0), (9, 0), (10, 0), (11, 0), (11, 1), (5, 0), (4, 0), (3, 0), (2, 0), (1, 0)]) (fun q => q = h0 ∨ s.heap.size ≤ q) SC1 (fun _ _ _ => 0) GC0 [(h0, .inr (6, [.ref q1, .ref q2, .ref q3, .ref q4, .ref q5, .ref q6, .ref q7, .ref q8, .int 0, .int (-1), .int 0, .int 0, .int 0, .int 0, .int 0]))] s.heap H locs := hC
  refine lv_aload_n hx hb d6_init_88 rfl (lv_at hl 0 rfl) ?_
  refine lv_iconst (v := 0) hx hb d6_init_89 (by decide) ?_
  refine cr_put (v := .int 0) hx hb hw hown hK hC 10 rfl us6 tk6 nm6 (by decide) fl_6_61 (Or.inl rfl) rfl rfl (Nat.le_of_ble_eq_true rfl) d6_init_90 (fun H locs hC => ?_)
  have hC : c_B D aC ad12 (xP [(8, 0), (7, 0), (6, 0), (9, 0), (10, 0), (11, 0), (11, 1), (5, 0), (4, 0), (3, 0), (2, 0), (1, 0)]) (fun q => q = h0 ∨ s.heap.size ≤ q) SC1 (fun _ _ _ => 0) GC0 [(h0, .inr (6, [.ref q1, .ref q2, .ref q3, .ref q4, .ref q5, .ref q6, .ref q7, .ref q8, .int 0, .int (-1), .int 0, .int 0, .int 0, .int 0, .int 0]))] s.heap H locs := hC
  refine lv_aload_n hx hb d6_init_93 rfl (lv_at hl 0 rfl) ?_
  refine lv_iconst (v := (-1)) hx hb d6_init_94 (by decide) ?_
  refine cr_put (v := .int (-1)) hx hb hw hown hK hC 11 rfl us6 tk6 nm6 (by decide) fl_6_64 (Or.inl rfl) rfl rfl (Nat.le_of_ble_eq_true rfl) d6_init_95 (fun H locs hC => ?_)
  have hC : c_B D aC ad12 (xP [(8, 0), (7, 0), (6, 0), (9, 0), (10, 0), (11, 0), (11, 1), (5, 0), (4, 0), (3, 0), (2, 0), (1, 0)]) (fun q => q = h0 ∨ s.heap.size ≤ q) SC1 (fun _ _ _ => 0) GC0 [(h0, .inr (6, [.ref q1, .ref q2, .ref q3, .ref q4, .ref q5, .ref q6, .ref q7, .ref q8, .int 0, .int (-1), .int 0, .int (-1), .int 0, .int 0, .int 0]))] s.heap H locs := hC
  refine lv_aload_n hx hb d6_init_98 rfl (lv_at hl 0 rfl) ?_
  refine lv_iconst (v := 0) hx hb d6_init_99 (by decide) ?_
  refine cr_put (v := .int 0) hx hb hw hown hK hC 12 rfl us6 tk6 nm6 (by decide) fl_6_67 (Or.inl rfl) rfl rfl (Nat.le_of_ble_eq_true rfl) d6_init_100 (fun H locs hC => ?_)
  have hC : c_B D aC ad12 (xP [(8, 0), (7, 0), (6, 0), (9, 0), (10, 0), (11, 0), (11, 1), (5, 0), (4, 0), (3, 0), (2, 0), (1, 0)]) (fun q => q = h0 ∨ s.heap.size ≤ q) SC1 (fun _ _ _ => 0) GC0 [(h0, .inr (6, [.ref q1, .ref q2, .ref q3, .ref q4, .ref q5, .ref q6, .ref q7, .ref q8, .int 0, .int (-1), .int 0, .int (-1), .int 0, .int 0, .int 0]))] s.heap H locs := hC
  refine lv_aload_n hx hb d6_init_103 rfl (lv_at hl 0 rfl) ?_
  refine lv_iconst (v := 0) hx hb d6_init_104 (by decide) ?_
  refine cr_put (v := .int 0) hx hb hw hown hK hC 13 rfl us6 tk6 nm6 (by decide) fl_6_70 (Or.inl rfl) rfl rfl (Nat.le_of_ble_eq_true rfl) d6_init_105 (fun H locs hC => ?_)
  have hC : c_B D aC ad12 (xP [(8, 0), (7, 0), (6, 0), (9, 0), (10, 0), (11, 0), (11, 1), (5, 0), (4, 0), (3, 0), (2, 0), (1, 0)]) (fun q => q = h0 ∨ s.heap.size ≤ q) SC1 (fun _ _ _ => 0) GC0 [(h0, .inr (6, [.ref q1, .ref q2, .ref q3, .ref q4, .ref q5, .ref q6, .ref q7, .ref q8, .int 0, .int (-1), .int 0, .int (-1), .int 0, .int 0, .int 0]))] s.heap H locs := hC
  refine lv_aload_n hx hb d6_init_108 rfl (lv_at hl 0 rfl) ?_
  refine lv_iconst (v := 0) hx hb d6_init_109 (by decide) ?_
  refine cr_put (v := .int 0) hx hb hw hown hK hC 14 rfl us6 tk6 nm6 (by decide) fl_6_73 (Or.inl rfl) rfl rfl (Nat.le_of_ble_eq_true rfl) d6_init_110 (fun H locs hC => ?_)
  have hC : c_B D aC ad12 (xP [(8, 0), (7, 0), (6, 0), (9, 0), (10, 0), (11, 0), (11, 1), (5, 0), (4, 0), (3, 0), (2, 0), (1, 0)]) (fun q => q = h0 ∨ s.heap.size ≤ q) SC1 (fun _ _ _ => 0) GC0 [(h0, .inr (6, [.ref q1, .ref q2, .ref q3, .ref q4, .ref q5, .ref q6, .ref q7, .ref q8, .int 0, .int (-1), .int 0, .int (-1), .int 0, .int 0, .int 0]))] s.heap H locs := hC
  have f0 : ad12 1 0 = q1 := by rw [had12, adx_k (f0 := 8) (n0 := 0) (f := 1) (n := 0) (by decide), had11, adx_k (f0 := 7) (n0 := 0) (f := 1) (n := 0) (by decide), had10, adx_k (f0 := 6) (n0 := 0) (f := 1) (n := 0) (by decide), had9, adx_k (f0 := 9) (n0 := 0) (f := 1) (n := 0) (by decide), had8, adx_k (f0 := 10) (n0 := 0) (f := 1) (n := 0) (by decide), had7, adx_k (f0 := 11) (n0 := 0) (f := 1) (n := 0) (by decide), had6, adx_k (f0 := 11) (n0 := 1) (f := 1) (n := 0) (by decide), had5, adx_k (f0 := 5) (n0 := 0) (f := 1) (n := 0) (by decide), had4, adx_k (f0 := 4) (n0 := 0) (f := 1) (n := 0) (by decide), had3, adx_k (f0 := 3) (n0 := 0) (f := 1) (n := 0) (by decide), had2, adx_k (f0 := 2) (n0 := 0) (f := 1) (n := 0) (by decide), had1, adx_s]
  have f1 : ad12 2 0 = q2 := by rw [had12, adx_k (f0 := 8) (n0 := 0) (f := 2) (n := 0) (by decide), had11, adx_k (f0 := 7) (n0 := 0) (f := 2) (n := 0) (by decide), had10, adx_k (f0 := 6) (n0 := 0) (f := 2) (n := 0) (by decide), had9, adx_k (f0 := 9) (n0 := 0) (f := 2) (n := 0) (by decide), had8, adx_k (f0 := 10) (n0 := 0) (f := 2) (n := 0) (by decide), had7, adx_k (f0 := 11) (n0 := 0) (f := 2) (n := 0) (by decide), had6, adx_k (f0 := 11) (n0 := 1) (f := 2) (n := 0) (by decide), had5, adx_k (f0 := 5) (n0 := 0) (f := 2) (n := 0) (by decide), had4, adx_k (f0 := 4) (n0 := 0) (f := 2) (n := 0) (by decide), had3, adx_k (f0 := 3) (n0 := 0) (f := 2) (n := 0) (by decide), had2, adx_s]
  have f2 : ad12 3 0 = q3 := by rw [had12, adx_k (f0 := 8) (n0 := 0) (f := 3) (n := 0) (by decide), had11, adx_k (f0 := 7) (n0 := 0) (f := 3) (n := 0) (by decide), had10, adx_k (f0 := 6) (n0 := 0) (f := 3) (n := 0) (by decide), had9, adx_k (f0 := 9) (n0 := 0) (f := 3) (n := 0) (by decide), had8, adx_k (f0 := 10) (n0 := 0) (f := 3) (n := 0) (by decide), had7, adx_k (f0 := 11) (n0 := 0) (f := 3) (n := 0) (by decide), had6, adx_k (f0 := 11) (n0 := 1) (f := 3) (n := 0) (by decide), had5, adx_k (f0 := 5) (n0 := 0) (f := 3) (n := 0) (by decide), had4, adx_k (f0 := 4) (n0 := 0) (f := 3) (n := 0) (by decide), had3, adx_s]
  have f3 : ad12 4 0 = q4 := by rw [had12, adx_k (f0 := 8) (n0 := 0) (f := 4) (n := 0) (by decide), had11, adx_k (f0 := 7) (n0 := 0) (f := 4) (n := 0) (by decide), had10, adx_k (f0 := 6) (n0 := 0) (f := 4) (n := 0) (by decide), had9, adx_k (f0 := 9) (n0 := 0) (f := 4) (n := 0) (by decide), had8, adx_k (f0 := 10) (n0 := 0) (f := 4) (n := 0) (by decide), had7, adx_k (f0 := 11) (n0 := 0) (f := 4) (n := 0) (by decide), had6, adx_k (f0 := 11) (n0 := 1) (f := 4) (n := 0) (by decide), had5, adx_k (f0 := 5) (n0 := 0) (f := 4) (n := 0) (by decide), had4, adx_s]
  have f4 : ad12 5 0 = q5 := by rw [had12, adx_k (f0 := 8) (n0 := 0) (f := 5) (n := 0) (by decide), had11, adx_k (f0 := 7) (n0 := 0) (f := 5) (n := 0) (by decide), had10, adx_k (f0 := 6) (n0 := 0) (f := 5) (n := 0) (by decide), had9, adx_k (f0 := 9) (n0 := 0) (f := 5) (n := 0) (by decide), had8, adx_k (f0 := 10) (n0 := 0) (f := 5) (n := 0) (by decide), had7, adx_k (f0 := 11) (n0 := 0) (f := 5) (n := 0) (by decide), had6, adx_k (f0 := 11) (n0 := 1) (f := 5) (n := 0) (by decide), had5, adx_s]
  have f5 : ad12 6 0 = q6 := by rw [had12, adx_k (f0 := 8) (n0 := 0) (f := 6) (n := 0) (by decide), had11, adx_k (f0 := 7) (n0 := 0) (f := 6) (n := 0) (by decide), had10, adx_s]
  have f6 : ad12 7 0 = q7 := by rw [had12, adx_k (f0 := 8) (n0 := 0) (f := 7) (n := 0) (by decide), had11, adx_s]
  have f7 : ad12 8 0 = q8 := by rw [had12, adx_s]
  have hv : ∀ k, k < 15 → vp_V [.ref q1, .ref q2, .ref q3, .ref q4, .ref q5, .ref q6, .ref q7, .ref q8, .int 0, .int (-1), .int 0, .int (-1), .int 0, .int 0, .int 0] k = s_fv (adx ad12 0 0 h0) SC0 0 0 k := by
    intro k hk
    rcases (show k = 0 ∨ k = 1 ∨ k = 2 ∨ k = 3 ∨ k = 4 ∨ k = 5 ∨ k = 6 ∨ k = 7 ∨ k = 8 ∨ k = 9 ∨ k = 10 ∨ k = 11 ∨ k = 12 ∨ k = 13 ∨ k = 14 by omega) with rfl | rfl | rfl | rfl | rfl | rfl | rfl | rfl | rfl | rfl | rfl | rfl | rfl | rfl | rfl
    · exact congrArg Value.ref f0.symm
    · exact congrArg Value.ref f1.symm
    · exact congrArg Value.ref f2.symm
    · exact congrArg Value.ref f3.symm
    · exact congrArg Value.ref f4.symm
    · exact congrArg Value.ref f5.symm
    · exact congrArg Value.ref f6.symm
    · exact congrArg Value.ref f7.symm
    · rfl
    · rfl
    · rfl
    · rfl
    · rfl
    · rfl
    · rfl
  have hC := c_abs hC 0 0 (show ¬ (0, 0) ∈ ([(8, 0), (7, 0), (6, 0), (9, 0), (10, 0), (11, 0), (11, 1), (5, 0), (4, 0), (3, 0), (2, 0), (1, 0)] : List (Nat × Nat)) by decide) SC0 (fun _ _ _ => 0) GC0 (fun f n k h => upO_n (fun z => by have h9 : (f, n) ∈ ([(8, 0), (7, 0), (6, 0), (9, 0), (10, 0), (11, 0), (11, 1), (5, 0), (4, 0), (3, 0), (2, 0), (1, 0)] : List (Nat × Nat)) := h; rw [z.1, z.2] at h9; exact absurd h9 (by decide))) (fun _ _ _ _ => rfl) (fun _ _ _ _ => rfl) (c_cell (f0 := 0) (n0 := 0) (hC.2.2.1 _ List.mem_cons_self).1 ⟨rfl, rfl, rfl, rfl⟩ adx_s hv) (fun _ k hk h => by have h7 := fr0 k hk h; rw [show xP _ (fr 0 k) 0 = ((fr 0 k, 0) ∈ ([(8, 0), (7, 0), (6, 0), (9, 0), (10, 0), (11, 0), (11, 1), (5, 0), (4, 0), (3, 0), (2, 0), (1, 0)] : List (Nat × Nat))) from rfl]; exact h7) (fun h => absurd h (by decide))
  rw [xP_c] at hC
  obtain ⟨ad13, had13⟩ : ∃ z : Nat → Nat → Nat, z = adx ad12 0 0 h0 := ⟨_, rfl⟩
  rw [← had13] at hC
  sorry
