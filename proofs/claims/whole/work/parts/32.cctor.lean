/-! the cabinet's constructor -/
theorem idx_bare (vm : Vm) (comp : ClassId) : (vm.bare.classes.findIdx? fun (x : Class) => match x.kind with | .array component _ => component == comp | _ => false) = (vm.classes.findIdx? fun (x : Class) => match x.kind with | .array component _ => component == comp | _ => false) := by
  simp only [Vm.bare, Array.findIdx?_map]
  rfl
theorem aoa_moved {u U : State} (hvm : u.vm.Alike U.vm) (h : (Cond.arrayOver (.array .int)).before #[] u = true) : (Cond.arrayOver (.array .int)).before #[] U = true := by
  obtain ⟨comp, c, k, h1, h2, h3, h4, h5⟩ := arrayOverA_spec h
  obtain ⟨k', hk', he⟩ := hvm.2.2 _ _ h3
  have hi : (U.vm.classes.findIdx? fun (x : Class) => match x.kind with | .array component _ => component == comp | _ => false) = some c := by
    rw [← idx_bare]
    first | rw [hvm.bare_eq] | rw [← hvm.bare_eq]
    rw [idx_bare]
    exact h2
  have hkind : k'.kind = .array comp (.array .int) := by rw [he]; exact h4
  have f1 : U.vm.findClass (FieldType.array .int).toString = some comp := by rw [hvm.findClass]; exact h1
  have f2 : U.vm.findClass ("[" ++ (FieldType.array .int).toString) = some c := by rw [hvm.findClass]; exact h5
  unfold Cond.before Cond.holds
  simp only [Cond.value]
  rw [f1, Option.bind_some]
  refine (congrArg (fun o : Option Nat => (o.bind (fun c => (U.vm.classes[c]?).map fun (k : Class) => match k.kind with | .array _ ty => decide (ty = FieldType.array .int) && decide (U.vm.findClass ("[" ++ (FieldType.array .int).toString) = some c) | _ => false) == some true)) hi).trans ?_
  simp [hk', hkind, f2]
def xP (l : List (Nat × Nat)) : Nat → Nat → Prop := fun f n => (f, n) ∈ l
theorem xP_c {l : List (Nat × Nat)} {f n : Nat} : Xx (xP l) f n = xP ((f, n) :: l) := by
  funext f1 n1
  apply propext
  constructor
  · intro h
    rcases h with h | ⟨rfl, rfl⟩
    · exact List.mem_cons_of_mem _ h
    · exact List.mem_cons_self
  · intro h
    rcases List.mem_cons.mp h with e | e
    · exact Or.inr ⟨congrArg Prod.fst e, congrArg Prod.snd e⟩
    · exact Or.inl e
theorem xP_0 : (fun _ _ => False : Nat → Nat → Prop) = xP [] := by
  funext f n
  apply propext
  constructor
  · intro h; exact h.elim
  · intro h; exact absurd h List.not_mem_nil
theorem c_perm {D : va_G} {aC : Nat → ClassId} {ad : Nat → Nat → Nat} {X : Nat → Nat → Prop} {Z : Nat → Prop} {S A : sS} {G : sG} {ws ws1 : va_W} {H0 H : Heap} {locs : List Loc} (h : c_B D aC ad X Z S A G ws H0 H locs) (hp : ws.Perm ws1) : c_B D aC ad X Z S A G ws1 H0 H locs := by
  obtain ⟨h1, h2, h3, h4⟩ := h
  exact ⟨h1, h2, fun q hq => h3 q (hp.mem_iff.mpr hq), (hp.map _).nodup_iff.mp h4⟩
/-- what the tables must say besides the wall -/
def e_C (U : State) : Prop := va_AO R5 U ∧ va_AO R1 U ∧ va_AO R0 U ∧ va_AO R3 U ∧ (Cond.arrayOver (.array .int)).before #[] U = true ∧ va_Nw (.methodLinkNest R6 35 y4_init "DispenseCabinet") U ∧ va_Nw (.methodLinkNest R6 42 y2_init "DispenseCabinet") U ∧ va_Nw (.methodLinkNest R6 76 y0_init "DispenseCabinet") U
def GC0 : sG := fun f i => if f = 10 ∧ i < 2 then some i else none
def SC1 : sS := upO (fun _ _ _ => 0) 5 0 [-1, -1, -1, 0, 0, 0, 0]
def SC0 : sS := upO SC1 0 0 [0, 0, 0, 0, 0, 0, 0, 0, 0, -1, 0, -1, 0, 0, 0]
def LC : List (Nat × Nat) := [(0, 0), (8, 0), (7, 0), (6, 0), (9, 0), (10, 0), (11, 0), (11, 1), (5, 0), (4, 0), (3, 0), (2, 0), (1, 0)]
def xB (j : Nat) : Nat → Nat → Prop := fun f n => (f, n) ∈ LC ∨ ((f = 15 ∨ f = 16 ∨ f = 17) ∧ n < j)
def SB (j : Nat) : sS := fun f n k => if f = 15 ∧ n < j ∧ k = 2 then -1 else SC0 f n k
def GB (j : Nat) : sG := fun f i => if f = 3 ∧ i < j then some i else GC0 f i
theorem LC_lo {f n : Nat} (h : (f, n) ∈ LC) : f < 15 ∧ (f ≠ 11 → n = 0) := by
  unfold LC at h
  simp only [List.mem_cons, Prod.mk.injEq, List.not_mem_nil, or_false] at h
  omega
theorem xB_s (j : Nat) : Xx (Xx (Xx (xB j) 16 j) 17 j) 15 j = xB (j + 1) := by
  funext f n
  apply propext
  unfold Xx xB
  constructor
  · intro h
    rcases h with ((h | h) | h) | h
    · rcases h with h | h
      · exact Or.inl h
      · exact Or.inr ⟨h.1, by omega⟩
    · exact Or.inr ⟨by omega, by omega⟩
    · exact Or.inr ⟨by omega, by omega⟩
    · exact Or.inr ⟨by omega, by omega⟩
  · intro h
    rcases h with h | ⟨h1, h2⟩
    · exact Or.inl (Or.inl (Or.inl (Or.inl h)))
    · by_cases e : n < j
      · exact Or.inl (Or.inl (Or.inl (Or.inr ⟨h1, e⟩)))
      · have en : n = j := by omega
        rcases h1 with rfl | rfl | rfl
        · exact Or.inr ⟨rfl, en⟩
        · exact Or.inl (Or.inl (Or.inr ⟨rfl, en⟩))
        · exact Or.inl (Or.inr ⟨rfl, en⟩)
theorem GB_s (j : Nat) : up2 (GB j) 3 j (some j) = GB (j + 1) := by
  funext f i
  by_cases e : f = 3 ∧ i = j
  · obtain ⟨rfl, rfl⟩ := e
    rw [up2_s]
    unfold GB
    rw [if_pos ⟨rfl, by omega⟩]
  · rw [up2_n e]
    unfold GB
    by_cases c : f = 3 ∧ i < j
    · rw [if_pos c, if_pos ⟨c.1, by omega⟩]
    · rw [if_neg c, if_neg (fun z => by have : ¬ i = j := fun q => e ⟨z.1, q⟩; exact c ⟨z.1, by omega⟩)]
theorem xB_0 : xP [(0, 0), (8, 0), (7, 0), (6, 0), (9, 0), (10, 0), (11, 0), (11, 1), (5, 0), (4, 0), (3, 0), (2, 0), (1, 0)] = xB 0 := by
  funext f n
  apply propext
  constructor
  · intro h; exact Or.inl h
  · intro h
    rcases h with h | h
    · exact h
    · exact absurd h.2 (Nat.not_lt_zero _)
theorem SB_0 : SC0 = SB 0 := by
  funext f n k
  unfold SB
  rw [if_neg (fun z => absurd z.2.1 (Nat.not_lt_zero _))]
theorem GB_0 : GC0 = GB 0 := by
  funext f i
  unfold GB
  rw [if_neg (fun z => absurd z.2 (Nat.not_lt_zero _))]
def k_Q2 (D : va_G) (aC : Nat → ClassId) (X : Nat → Nat → Prop) (S A : sS) (G : sG) (f0 h0 sz : Nat) : Array Value → State → Outcome → State → Prop := fun _ st oc t => oc = .returned none ∧ (∃ ad : Nat → Nat → Nat, s_J ad X ∧ s_P D aC ad X S A G t.heap ∧ s_L X G ∧ ad f0 0 = h0 ∧ (∀ f n, X f n → ad f n = h0 ∨ sz ≤ ad f n)) ∧ va_F (fun q => q = h0 ∨ sz ≤ q) st t
abbrev rC : Room := { frames := 3, cells := 204, slots := 5066, locals := 120 }
set_option maxRecDepth 100000 in
set_option maxHeartbeats 8000000 in
theorem k6_init_115 {p : Program} {l : Launch} {e : Env} {s : State} {m : MethodId} {args : Array Value} {below : List Frame} {meth : Method} {c : Code} {D : va_G} {aC : Nat → ClassId} {h0 : Nat} (hx : p.tables.exec = Jvm.exec) (hb : c.code = b6_init) (hml : c.maxLocals = 2) (hr : meth.sig.returnType = none) (hw : ∀ w ∈ wall, w.before args s = true) (hown : s.vm.findClass R6 = some m.cls) (hK : va_K D cls (tyl aC) s) (hlocks : meth.locks = false) (hE : e_C s) : ∀ (r j : Nat), j ≤ 64 → 64 < j + r → ∀ {ad : Nat → Nat → Nat} {H : Heap} {locs : List Loc}, ad 0 0 = h0 → c_B D aC ad (xB j) (fun q => q = h0 ∨ s.heap.size ≤ q) (SB j) (fun _ _ _ => 0) (GB j) [] s.heap H locs → ∀ {ls : Array Slot}, lv_has ls 2 [(0, .ref h0), (1, .int (nI j))] → W p l e rC s m args below meth c H locs (12 + 3 * j) (3914 + 18 * j) (MQ below (k_Q2 D aC (xB 64) (SB 64) (fun _ _ _ => 0) (GB 64) 0 h0 s.heap.size) args s 204 5066 (fun q => q = h0 ∨ s.heap.size ≤ q)) (F0 m 115 ls []) := by
  have hZn : ∀ q, s.heap.size ≤ q → (fun q => q = h0 ∨ s.heap.size ≤ q) q := fun q h => Or.inr h
  intro r
  induction r with
  | zero => intro j h1 h2; exact absurd h2 (by omega)
  | succ r ih =>
    intro j h1 h2 ad H locs h00 hC ls hl
    have aj := nI_toInt (n := j) (by omega)
    have l64 : (64 : Int32).toInt = 64 := rfl
    refine lv_iload_n hx hb d6_init_115 rfl (lv_at hl 1 rfl) ?_
    refine lv_bipush (v := 64) hx hb d6_init_116 (by decide) ?_
    refine lv_icmp_ge (tgt := 140) hx hb d6_init_118 (by decide) (fun c_1 => ?_) (fun c_1 => ?_)
    · have k1 := le_i c_1
      have ej : j = 64 := by omega
      subst ej
      refine W.widen (k := 204) (n := 5066) (by omega) (by omega) ?_
      exact W.vret hx hb hr (fun t ht hW => ⟨rfl, ⟨ad, hC.1.1, by rw [ht]; exact hC.1.2.1, hC.2.1, h00, hC.1.2.2.2⟩, hC.1.2.2.1.F ht⟩) hC.1.2.2.1.2.2 d6_init_140 hlocks
    · have k1 := nle_i c_1
      have hj : j < 64 := by omega
      refine lv_aload_n hx hb d6_init_121 rfl (lv_at hl 0 rfl) ?_
      have h00' : Value.ref h0 = Value.ref (ad 0 0) := by rw [h00]
      rw [h00']
      refine sr_get (v := .ref (ad 3 0)) hx hb hw hown hK hC.1 2 (Or.inl (by decide)) cf_0 us6 (by decide) fl_6_23 rfl d6_init_122 ?_
      refine lv_iload_n hx hb d6_init_125 rfl (lv_at hl 1 rfl) ?_
      refine cr_new (ci := 0) (fs := [.null, .null, .int 0, .int 0, .int 0, .int 0]) hx hb hw hown hK hC hZn us0 tk0 cl_6_21 it_0 in_0 rfl (fun j hj => by rcases (show j = 0 ∨ j = 1 ∨ j = 2 ∨ j = 3 ∨ j = 4 ∨ j = 5 by omega) with rfl | rfl | rfl | rfl | rfl | rfl <;> rfl) (show 12 + 3 * j + 1 ≤ 204 by omega) (show 3914 + 18 * j + 6 ≤ 5066 by omega) d6_init_126 (fun q H eq hC => ?_)
      refine lv_dup hx hb d6_init_129 rfl ?_
      refine cr_init (va_runIN (Ts := wall) (As := []) (rest := [.ref q, .int (nI j), .ref (ad 3 0)]) ⟨hx, hb, hml, hown, hw⟩ (m0_init q H.size) ⟨va_cnB 0 hw (wall_in0 cd_0_init) rfl rfl rfl hE.2.2.2.2.2.2.2 (hw _ in_0) hd0_init ⟨by decide, by decide⟩, rfl, hw _ im_0_init⟩ ⟨c_blind (fun _ _ _ _ h => h), c_pre hK (hC.2.2.1 _ List.mem_cons_self).1 (fun _ _ => trivial)⟩ rfl rfl hl.1 rfl (lv_room (Nat.le_of_ble_eq_true rfl)) d6_init_130 ⟨show 12 + 3 * j + 1 + 2 ≤ 204 by omega, show 3914 + 18 * j + 6 + 12 ≤ 5066 by omega⟩) hC hZn (fun w1 H locs hw1 hC => ?_)
      obtain ⟨q1, q2, rfl⟩ := hw1
      have hC := c_perm hC (List.Perm.append_right _ (List.reverse_perm _).symm)
      have hC : c_B D aC ad (xB j) (fun q => q = h0 ∨ s.heap.size ≤ q) (SB j) (fun _ _ _ => 0) (GB j) [(q1, .inl (aC 0, 6, .inl (fun _ => 0))), (q2, .inl (aC 0, 6, .inl (fun _ => 0))), (q, .inr (0, [.ref q1, .ref q2, .int (-1), .int 0, .int 0, .int 0]))] s.heap H locs := hC
      have no : ∀ f, (f = 15 ∨ f = 16 ∨ f = 17) → ¬ xB j f j := fun f hf h => by
        rcases h with h | h
        · have := (LC_lo h).1; omega
        · omega
      have hC := c_abs hC 16 j (no 16 (by decide)) (SB j) (fun _ _ _ => 0) (GB j) (fun _ _ _ _ => rfl) (fun _ _ _ _ => rfl) (fun _ _ _ _ => rfl) (c_arr (f0 := 16) (n0 := j) (hC.2.2.1 _ List.mem_cons_self).1 ⟨by decide, rfl, rfl⟩ adx_s (fun _ _ => rfl)) (fun h => absurd h (by decide)) (fun h => absurd h (by decide))
      have hC := c_abs hC 17 j (fun h => h.elim (no 17 (by decide)) (fun z => absurd z.1 (by decide))) (SB j) (fun _ _ _ => 0) (GB j) (fun _ _ _ _ => rfl) (fun _ _ _ _ => rfl) (fun _ _ _ _ => rfl) (c_arr (f0 := 17) (n0 := j) (hC.2.2.1 _ List.mem_cons_self).1 ⟨by decide, rfl, rfl⟩ adx_s (fun _ _ => rfl)) (fun h => absurd h (by decide)) (fun h => absurd h (by decide))
      have n15 : ¬ Xx (Xx (xB j) 16 j) 17 j 15 j := fun h => h.elim (fun h => h.elim (no 15 (by decide)) (fun z => absurd z.1 (by decide))) (fun z => absurd z.1 (by decide))
      have a16 : adx (adx ad 16 j q1) 17 j q2 16 j = q1 := by rw [adx_k (fun z => absurd z.1 (by decide)), adx_s]
      have a17 : adx (adx ad 16 j q1) 17 j q2 17 j = q2 := adx_s
      have hS1 : ∀ f n k, Xx (Xx (xB j) 16 j) 17 j f n → SB (j + 1) f n k = SB j f n k := fun f n k h => by
        unfold SB
        by_cases z : f = 15 ∧ n < j ∧ k = 2
        · rw [if_pos z, if_pos ⟨z.1, by omega, z.2.2⟩]
        · by_cases z2 : f = 15 ∧ n < j + 1 ∧ k = 2
          · have en : n = j := by
              have : ¬ n < j := fun q => z ⟨z2.1, q, z2.2.2⟩
              omega
            rw [z2.1, en] at h
            exact absurd h n15
          · rw [if_neg z, if_neg z2]
      have hv : ∀ k, k < 6 → vp_V [.ref q1, .ref q2, .int (-1), .int 0, .int 0, .int 0] k = s_fv (adx (adx (adx ad 16 j q1) 17 j q2) 15 j q) (SB (j + 1)) 15 j k := by
        intro k hk
        have sb : ∀ k, ¬ k = 2 → SB (j + 1) 15 j k = 0 := fun k hk => by
          unfold SB
          rw [if_neg (fun z => hk z.2.2)]
          rfl
        have s2 : SB (j + 1) 15 j 2 = -1 := by
          unfold SB
          rw [if_pos ⟨rfl, by omega, rfl⟩]
        rcases (show k = 0 ∨ k = 1 ∨ k = 2 ∨ k = 3 ∨ k = 4 ∨ k = 5 by omega) with rfl | rfl | rfl | rfl | rfl | rfl
        · show Value.ref q1 = Value.ref (adx (adx (adx ad 16 j q1) 17 j q2) 15 j q 16 j)
          rw [adx_k (fun z => absurd z.1 (by decide)), a16]
        · show Value.ref q2 = Value.ref (adx (adx (adx ad 16 j q1) 17 j q2) 15 j q 17 j)
          rw [adx_k (fun z => absurd z.1 (by decide)), a17]
        · show Value.int (-1) = Value.int (SB (j + 1) 15 j 2)
          rw [s2]
        · show Value.int 0 = Value.int (SB (j + 1) 15 j 3)
          rw [sb 3 (by decide)]
        · show Value.int 0 = Value.int (SB (j + 1) 15 j 4)
          rw [sb 4 (by decide)]
        · show Value.int 0 = Value.int (SB (j + 1) 15 j 5)
          rw [sb 5 (by decide)]
      have hC := c_abs hC 15 j n15 (SB (j + 1)) (fun _ _ _ => 0) (GB j) hS1 (fun _ _ _ _ => rfl) (fun _ _ _ _ => rfl) (c_cell (f0 := 15) (n0 := j) (hC.2.2.1 _ List.mem_cons_self).1 ⟨rfl, rfl, rfl, rfl⟩ adx_s hv) (fun _ k hk h => by
        rcases (show k = 0 ∨ k = 1 ∨ 2 ≤ k by omega) with rfl | rfl | h3
        · exact Or.inl (Or.inr ⟨rfl, rfl⟩)
        · exact Or.inr ⟨rfl, rfl⟩
        · have h8 : k < 6 := hk
          rcases (show k = 2 ∨ k = 3 ∨ k = 4 ∨ k = 5 by omega) with rfl | rfl | rfl | rfl <;> exact absurd rfl h) (fun h => absurd h (by decide))
      rw [xB_s] at hC
      refine sr_aast (ad := adx (adx (adx ad 16 j q1) 17 j q2) 15 j q) (f := 3) (n := 0) (u := j) hx hb hK hC.1 (Or.inl (by decide)) rfl rfl (Or.inr ⟨Or.inl rfl, by omega⟩) cf_15 (fun n1 h => h.elim (fun h => (LC_lo h).2 (by decide)) (fun z => by omega)) (vp_in_nI (show j < 64 by omega) (by decide)) rfl adx_s.symm d6_init_133 (fun H locs hB => ?_)
      rw [nI_clamp (show j < 2 ^ 31 by omega), GB_s] at hB
      have hL1 : s_L (xB (j + 1)) (GB (j + 1)) := ⟨hC.2.1.1, fun f n i m h c3 hi eg => by
        by_cases z : f = 3 ∧ i = j
        · obtain ⟨rfl, rfl⟩ := z
          unfold GB at eg
          rw [if_pos ⟨rfl, by omega⟩] at eg
          cases eg
          exact Or.inr ⟨Or.inl rfl, by omega⟩
        · refine hC.2.1.2 f n i m h c3 hi ?_
          rw [← GB_s, up2_n z] at eg
          exact eg⟩
      have hC : c_B D aC (adx (adx (adx ad 16 j q1) 17 j q2) 15 j q) (xB (j + 1)) (fun q => q = h0 ∨ s.heap.size ≤ q) (SB (j + 1)) (fun _ _ _ => 0) (GB (j + 1)) [] s.heap H locs := ⟨hB, hL1, fun q h => (by cases h), List.nodup_nil⟩
      refine lv_iinc (v := nI (j + 1)) (lv' := [(1, .int (nI (j + 1))), (0, .ref h0)]) hx hb d6_init_134 hl (k := 1) rfl (nI_1 j) (by decide) rfl (fun ls hl => ?_)
      refine lv_goto (tgt := 115) hx hb d6_init_137 (by decide) ?_
      refine W.widen (k := 12 + 3 * (j + 1)) (n := 3914 + 18 * (j + 1)) (by omega) (by omega) ?_
      exact ih (j + 1) (by omega) (by omega) (by rw [adx_k (fun z => absurd z.1 (by decide)), adx_k (fun z => absurd z.1 (by decide)), adx_k (fun z => absurd z.1 (by decide))]; exact h00) hC (lv_sub hl [1, 0] rfl)
theorem fr5 (k : Nat) : fr 5 k = 0 := rfl
theorem fr0 : ∀ k, k < 15 → fr 0 k ≠ 0 → (fr 0 k, 0) ∈ ([(8, 0), (7, 0), (6, 0), (9, 0), (10, 0), (11, 0), (11, 1), (5, 0), (4, 0), (3, 0), (2, 0), (1, 0)] : List (Nat × Nat)) := by decide +kernel
set_option maxRecDepth 100000 in
set_option maxHeartbeats 8000000 in
theorem m6_init {l : Launch} {D : va_G} {aC : Nat → ClassId} (h0 sz : Nat) : Met l y6_init (.code y6_init b6_init 2 none :: wall) { frames := 3, cells := 204, slots := 5066, locals := 120 } (c_Pc D aC [.ref h0] h0 (.inr (6, [.null, .null, .null, .null, .null, .null, .null, .null, .int 0, .int 0, .int 0, .int 0, .int 0, .int 0, .int 0])) sz e_C) (k_Q2 D aC (xB 64) (SB 64) (fun _ _ _ => 0) (GB 64) 0 h0 sz) 204 5066 (fun q => q = h0 ∨ sz ≤ q) := by
  refine Met.ofW (cc := b6_init) (maxL := 2) (ret := none) (by decide) rfl ?_
  intro p e s m args below meth c s₁ B hml hv
  obtain ⟨rfl, rfl, hat, hK, hE⟩ := hv
  have hx := B.exec
  have hb := B.bytes
  have hr := B.returns
  have hlocks := B.notSynchronized
  have hw : ∀ w ∈ wall, w.before _ s = true := fun w h => atoms_spec (ws := .code y6_init b6_init 2 none :: wall) B.pre w (List.mem_cons_of_mem _ h)
  have hown : s.vm.findClass R6 = some m.cls := findClass_of_methodNamed B.named
  have hin : meth.name = "<init>" := (name_of_methodNamed B.named B.method).1
  have hC := c_start (D := D) (aC := aC) hat
  have hZn : ∀ q, s.heap.size ≤ q → (fun q => q = h0 ∨ s.heap.size ≤ q) q := fun q h => Or.inr h
  have hl := lv_entry [.ref h0] (n := 2) (Nat.le_of_ble_eq_true rfl)
  rw [lg_entry_eq]
  generalize (lg_sl [.ref h0] ++ List.replicate (2 - (lg_sl [.ref h0]).length) Slot.unset).toArray = ls at hl ⊢
  have hl : lv_has ls 2 [(0, .ref h0)] := hl
  have hC : c_B D aC (fun _ _ => 0) (xP []) (fun q => q = h0 ∨ s.heap.size ≤ q) (fun _ _ _ => 0) (fun _ _ _ => 0) (fun _ _ => none) [(h0, .inr (6, [.null, .null, .null, .null, .null, .null, .null, .null, .int 0, .int 0, .int 0, .int 0, .int 0, .int 0, .int 0]))] s.heap s.heap [] := by rw [← xP_0]; exact hC
  obtain ⟨ad0, had0⟩ : ∃ z : Nat → Nat → Nat, z = fun _ _ => 0 := ⟨_, rfl⟩
  rw [← had0] at hC
  refine lv_aload_n hx hb d6_init_0 rfl (lv_at hl 0 rfl) ?_
  refine W.objInit hx hb hown (hw _ ml_6_1) (hw _ im_O_init) (hw _ cd_O_init) rfl (by rw [hml]; exact hl.1) rfl d6_init_1 (Nat.le_of_ble_eq_true rfl) (Nat.le_of_ble_eq_true rfl) ?_
  refine W.eq (g2 := F0 m 4 ls []) rfl ?_
  refine lv_aload_n hx hb d6_init_4 rfl (lv_at hl 0 rfl) ?_
  refine lv_bipush (v := 16) hx hb d6_init_5 (by decide) ?_
  refine cr_newq (t0 := 2) (N := 16) hx hb hown (hw _ cl_6_9) hE.1 hK hC hZn rfl (by decide) (by decide) (by decide) (by decide) (by decide) d6_init_7 (fun q1 H eq1 hC => ?_)
  have hC := c_abs hC 1 0 (show ¬ (1, 0) ∈ ([] : List (Nat × Nat)) by decide) (fun _ _ _ => 0) (fun _ _ _ => 0) (fun _ _ => none) (fun _ _ _ _ => rfl) (fun _ _ _ _ => rfl) (fun _ _ _ _ => rfl) (c_arq (f0 := 1) (n0 := 0) (hC.2.2.1 _ List.mem_cons_self).1 ⟨rfl, rfl, rfl⟩ adx_s (fun _ _ => rfl)) (fun h => absurd h (by decide)) (fun _ i m _ h => by cases h)
  rw [xP_c] at hC
  obtain ⟨ad1, had1⟩ : ∃ z : Nat → Nat → Nat, z = adx ad0 1 0 q1 := ⟨_, rfl⟩
  rw [← had1] at hC
  refine W.widen (k := 1) (n := 16) (by decide) (by decide) ?_
  refine cr_put (v := .ref q1) hx hb hw hown hK hC 0 rfl us6 tk6 nm6 (by decide) fl_6_11 (Or.inr ⟨rfl, hin, rfl⟩) rfl rfl (Nat.le_of_ble_eq_true rfl) d6_init_10 (fun H locs hC => ?_)
  have hC : c_B D aC ad1 (xP [(1, 0)]) (fun q => q = h0 ∨ s.heap.size ≤ q) (fun _ _ _ => 0) (fun _ _ _ => 0) (fun _ _ => none) [(h0, .inr (6, [.ref q1, .null, .null, .null, .null, .null, .null, .null, .int 0, .int 0, .int 0, .int 0, .int 0, .int 0, .int 0]))] s.heap H locs := hC
  refine lv_aload_n hx hb d6_init_13 rfl (lv_at hl 0 rfl) ?_
  refine lv_bipush (v := 32) hx hb d6_init_14 (by decide) ?_
  refine cr_newq (t0 := 3) (N := 32) hx hb hown (hw _ cl_6_15) hE.2.1 hK hC hZn rfl (by decide) (by decide) (by decide) (by decide) (by decide) d6_init_16 (fun q2 H eq2 hC => ?_)
  have hC := c_abs hC 2 0 (show ¬ (2, 0) ∈ ([(1, 0)] : List (Nat × Nat)) by decide) (fun _ _ _ => 0) (fun _ _ _ => 0) (fun _ _ => none) (fun _ _ _ _ => rfl) (fun _ _ _ _ => rfl) (fun _ _ _ _ => rfl) (c_arq (f0 := 2) (n0 := 0) (hC.2.2.1 _ List.mem_cons_self).1 ⟨rfl, rfl, rfl⟩ adx_s (fun _ _ => rfl)) (fun h => absurd h (by decide)) (fun _ i m _ h => by cases h)
  rw [xP_c] at hC
  obtain ⟨ad2, had2⟩ : ∃ z : Nat → Nat → Nat, z = adx ad1 2 0 q2 := ⟨_, rfl⟩
  rw [← had2] at hC
  refine W.widen (k := 2) (n := 48) (by decide) (by decide) ?_
  refine cr_put (v := .ref q2) hx hb hw hown hK hC 1 rfl us6 tk6 nm6 (by decide) fl_6_17 (Or.inr ⟨rfl, hin, rfl⟩) rfl rfl (Nat.le_of_ble_eq_true rfl) d6_init_19 (fun H locs hC => ?_)
  have hC : c_B D aC ad2 (xP [(2, 0), (1, 0)]) (fun q => q = h0 ∨ s.heap.size ≤ q) (fun _ _ _ => 0) (fun _ _ _ => 0) (fun _ _ => none) [(h0, .inr (6, [.ref q1, .ref q2, .null, .null, .null, .null, .null, .null, .int 0, .int 0, .int 0, .int 0, .int 0, .int 0, .int 0]))] s.heap H locs := hC
  refine lv_aload_n hx hb d6_init_22 rfl (lv_at hl 0 rfl) ?_
  refine lv_bipush (v := 64) hx hb d6_init_23 (by decide) ?_
  refine cr_newq (t0 := 4) (N := 64) hx hb hown (hw _ cl_6_21) hE.2.2.1 hK hC hZn rfl (by decide) (by decide) (by decide) (by decide) (by decide) d6_init_25 (fun q3 H eq3 hC => ?_)
  have hC := c_abs hC 3 0 (show ¬ (3, 0) ∈ ([(2, 0), (1, 0)] : List (Nat × Nat)) by decide) (fun _ _ _ => 0) (fun _ _ _ => 0) (fun _ _ => none) (fun _ _ _ _ => rfl) (fun _ _ _ _ => rfl) (fun _ _ _ _ => rfl) (c_arq (f0 := 3) (n0 := 0) (hC.2.2.1 _ List.mem_cons_self).1 ⟨rfl, rfl, rfl⟩ adx_s (fun _ _ => rfl)) (fun h => absurd h (by decide)) (fun _ i m _ h => by cases h)
  rw [xP_c] at hC
  obtain ⟨ad3, had3⟩ : ∃ z : Nat → Nat → Nat, z = adx ad2 3 0 q3 := ⟨_, rfl⟩
  rw [← had3] at hC
  refine W.widen (k := 3) (n := 112) (by decide) (by decide) ?_
  refine cr_put (v := .ref q3) hx hb hw hown hK hC 2 rfl us6 tk6 nm6 (by decide) fl_6_23 (Or.inr ⟨rfl, hin, rfl⟩) rfl rfl (Nat.le_of_ble_eq_true rfl) d6_init_28 (fun H locs hC => ?_)
  have hC : c_B D aC ad3 (xP [(3, 0), (2, 0), (1, 0)]) (fun q => q = h0 ∨ s.heap.size ≤ q) (fun _ _ _ => 0) (fun _ _ _ => 0) (fun _ _ => none) [(h0, .inr (6, [.ref q1, .ref q2, .ref q3, .null, .null, .null, .null, .null, .int 0, .int 0, .int 0, .int 0, .int 0, .int 0, .int 0]))] s.heap H locs := hC
  refine lv_aload_n hx hb d6_init_31 rfl (lv_at hl 0 rfl) ?_
  refine lv_bipush (v := 60) hx hb d6_init_32 (by decide) ?_
  refine cr_newq (t0 := 5) (N := 60) hx hb hown (hw _ cl_6_27) hE.2.2.2.1 hK hC hZn rfl (by decide) (by decide) (by decide) (by decide) (by decide) d6_init_34 (fun q4 H eq4 hC => ?_)
  have hC := c_abs hC 4 0 (show ¬ (4, 0) ∈ ([(3, 0), (2, 0), (1, 0)] : List (Nat × Nat)) by decide) (fun _ _ _ => 0) (fun _ _ _ => 0) (fun _ _ => none) (fun _ _ _ _ => rfl) (fun _ _ _ _ => rfl) (fun _ _ _ _ => rfl) (c_arq (f0 := 4) (n0 := 0) (hC.2.2.1 _ List.mem_cons_self).1 ⟨rfl, rfl, rfl⟩ adx_s (fun _ _ => rfl)) (fun h => absurd h (by decide)) (fun _ i m _ h => by cases h)
  rw [xP_c] at hC
  obtain ⟨ad4, had4⟩ : ∃ z : Nat → Nat → Nat, z = adx ad3 4 0 q4 := ⟨_, rfl⟩
  rw [← had4] at hC
  refine W.widen (k := 4) (n := 172) (by decide) (by decide) ?_
  refine cr_put (v := .ref q4) hx hb hw hown hK hC 3 rfl us6 tk6 nm6 (by decide) fl_6_29 (Or.inr ⟨rfl, hin, rfl⟩) rfl rfl (Nat.le_of_ble_eq_true rfl) d6_init_37 (fun H locs hC => ?_)
  have hC : c_B D aC ad4 (xP [(4, 0), (3, 0), (2, 0), (1, 0)]) (fun q => q = h0 ∨ s.heap.size ≤ q) (fun _ _ _ => 0) (fun _ _ _ => 0) (fun _ _ => none) [(h0, .inr (6, [.ref q1, .ref q2, .ref q3, .ref q4, .null, .null, .null, .null, .int 0, .int 0, .int 0, .int 0, .int 0, .int 0, .int 0]))] s.heap H locs := hC
  refine lv_aload_n hx hb d6_init_40 rfl (lv_at hl 0 rfl) ?_
  refine cr_new (ci := 4) (fs := [.int 0, .int 0, .int 0, .int 0, .int 0, .int 0, .int 0]) hx hb hw hown hK hC hZn us4 tk4 cl_6_33 it_4 in_4 rfl (fun j hj => by rcases (show j = 0 ∨ j = 1 ∨ j = 2 ∨ j = 3 ∨ j = 4 ∨ j = 5 ∨ j = 6 by omega) with rfl | rfl | rfl | rfl | rfl | rfl | rfl <;> rfl) (by decide) (by decide) d6_init_41 (fun q5 H eq5 hC => ?_)
  refine W.widen (k := 5) (n := 179) (by decide) (by decide) ?_
  refine lv_dup hx hb d6_init_44 rfl ?_
  refine cr_init (va_runIN (Ts := wall) (As := []) (rest := [.ref q5, .ref h0]) ⟨hx, hb, hml, hown, hw⟩ (m4_init q5 H.size) ⟨va_cnB 0 hw (wall_in0 cd_4_init) rfl rfl rfl hE.2.2.2.2.2.1 (hw _ in_4) hd4_init ⟨by decide, by decide⟩, rfl, hw _ im_4_init⟩ ⟨c_blind (fun _ _ _ _ h => h), c_pre hK (hC.2.2.1 _ List.mem_cons_self).1 (fun _ _ => trivial)⟩ rfl rfl hl.1 rfl (lv_room (Nat.le_of_ble_eq_true rfl)) d6_init_45 ⟨by decide, by decide⟩) hC hZn (fun w1 H locs hw1 hC => ?_)
  subst hw1
  have hC := c_abs hC 5 0 (show ¬ (5, 0) ∈ ([(4, 0), (3, 0), (2, 0), (1, 0)] : List (Nat × Nat)) by decide) SC1 (fun _ _ _ => 0) (fun _ _ => none) (fun f n k h => upO_n (fun z => by have h9 : (f, n) ∈ ([(4, 0), (3, 0), (2, 0), (1, 0)] : List (Nat × Nat)) := h; rw [z.1, z.2] at h9; exact absurd h9 (by decide))) (fun _ _ _ _ => rfl) (fun _ _ _ _ => rfl) (c_cell (f0 := 5) (n0 := 0) (hC.2.2.1 _ List.mem_cons_self).1 ⟨rfl, rfl, rfl, rfl⟩ adx_s (fun k hk => by rcases (show k = 0 ∨ k = 1 ∨ k = 2 ∨ k = 3 ∨ k = 4 ∨ k = 5 ∨ k = 6 by omega) with rfl | rfl | rfl | rfl | rfl | rfl | rfl <;> rfl)) (fun _ k hk h => absurd (fr5 k) h) (fun h => absurd h (by decide))
  rw [xP_c] at hC
  obtain ⟨ad5, had5⟩ : ∃ z : Nat → Nat → Nat, z = adx ad4 5 0 q5 := ⟨_, rfl⟩
  rw [← had5] at hC
  refine W.widen (k := 5) (n := 179) (by decide) (by decide) ?_
  have hC : c_B D aC ad5 (xP [(5, 0), (4, 0), (3, 0), (2, 0), (1, 0)]) (fun q => q = h0 ∨ s.heap.size ≤ q) SC1 (fun _ _ _ => 0) (fun _ _ => none) [(h0, .inr (6, [.ref q1, .ref q2, .ref q3, .ref q4, .null, .null, .null, .null, .int 0, .int 0, .int 0, .int 0, .int 0, .int 0, .int 0]))] s.heap H locs := hC
  refine cr_put (v := .ref q5) hx hb hw hown hK hC 4 rfl us6 tk6 nm6 (by decide) fl_6_36 (Or.inr ⟨rfl, hin, rfl⟩) rfl rfl (Nat.le_of_ble_eq_true rfl) d6_init_48 (fun H locs hC => ?_)
  have hC : c_B D aC ad5 (xP [(5, 0), (4, 0), (3, 0), (2, 0), (1, 0)]) (fun q => q = h0 ∨ s.heap.size ≤ q) SC1 (fun _ _ _ => 0) (fun _ _ => none) [(h0, .inr (6, [.ref q1, .ref q2, .ref q3, .ref q4, .ref q5, .null, .null, .null, .int 0, .int 0, .int 0, .int 0, .int 0, .int 0, .int 0]))] s.heap H locs := hC
  refine lv_aload_n hx hb d6_init_51 rfl (lv_at hl 0 rfl) ?_
  refine cr_new (ci := 2) (fs := [.null, .int 0, .null]) hx hb hw hown hK hC hZn us2 tk2 cl_6_40 it_2 in_2 rfl (fun j hj => by rcases (show j = 0 ∨ j = 1 ∨ j = 2 by omega) with rfl | rfl | rfl <;> rfl) (by decide) (by decide) d6_init_52 (fun q6 H eq6 hC => ?_)
  refine W.widen (k := 6) (n := 182) (by decide) (by decide) ?_
  refine lv_dup hx hb d6_init_55 rfl ?_
  refine cr_init (va_runIN (Ts := wall) (As := []) (rest := [.ref q6, .ref h0]) ⟨hx, hb, hml, hown, hw⟩ (m2_init q6 H.size) ⟨va_cnB 0 hw (wall_in0 cd_2_init) rfl rfl rfl hE.2.2.2.2.2.2.1 (hw _ in_2) hd2_init ⟨by decide, by decide⟩, rfl, hw _ im_2_init⟩ ⟨c_blind (fun _ _ _ _ h => h), c_pre hK (hC.2.2.1 _ List.mem_cons_self).1 (fun U hW => aoa_moved hW.alike hE.2.2.2.2.1)⟩ rfl rfl hl.1 rfl (lv_room (Nat.le_of_ble_eq_true rfl)) d6_init_56 ⟨by decide, by decide⟩) hC hZn (fun w1 H locs hw1 hC => ?_)
  obtain ⟨p1, p2, rfl⟩ := hw1
  have hC := c_perm hC (List.Perm.append_right _ (List.reverse_perm _).symm)
  have hC : c_B D aC ad5 (xP [(5, 0), (4, 0), (3, 0), (2, 0), (1, 0)]) (fun q => q = h0 ∨ s.heap.size ≤ q) SC1 (fun _ _ _ => 0) (fun _ _ => none) [(p2 + 2, .inl (aC 0, 1800, .inl (fun _ => 0))), (p2 + 1, .inl (aC 0, 1800, .inl (fun _ => 0))), (p2, .inl (aC 6, 2, .inr (.inr (.inr (.inr (fun i => if i < 2 then some (p2 + 1 + i) else none)))))), (p1, .inl (aC 1, 2, .inl (fun _ => 0))), (q6, .inr (2, [.ref p1, .int 0, .ref p2])), (h0, .inr (6, [.ref q1, .ref q2, .ref q3, .ref q4, .ref q5, .null, .null, .null, .int 0, .int 0, .int 0, .int 0, .int 0, .int 0, .int 0]))] s.heap H locs := hC
  have hC := c_abs hC 11 1 (show ¬ (11, 1) ∈ ([(5, 0), (4, 0), (3, 0), (2, 0), (1, 0)] : List (Nat × Nat)) by decide) SC1 (fun _ _ _ => 0) (fun _ _ => none) (fun _ _ _ _ => rfl) (fun _ _ _ _ => rfl) (fun _ _ _ _ => rfl) (c_arr (f0 := 11) (n0 := 1) (hC.2.2.1 _ List.mem_cons_self).1 ⟨by decide, rfl, rfl⟩ adx_s (fun _ _ => rfl)) (fun h => absurd h (by decide)) (fun h => absurd h (by decide))
  rw [xP_c] at hC
  obtain ⟨ad6, had6⟩ : ∃ z : Nat → Nat → Nat, z = adx ad5 11 1 (p2 + 2) := ⟨_, rfl⟩
  rw [← had6] at hC
  have hC := c_abs hC 11 0 (show ¬ (11, 0) ∈ ([(11, 1), (5, 0), (4, 0), (3, 0), (2, 0), (1, 0)] : List (Nat × Nat)) by decide) SC1 (fun _ _ _ => 0) (fun _ _ => none) (fun _ _ _ _ => rfl) (fun _ _ _ _ => rfl) (fun _ _ _ _ => rfl) (c_arr (f0 := 11) (n0 := 0) (hC.2.2.1 _ List.mem_cons_self).1 ⟨by decide, rfl, rfl⟩ adx_s (fun _ _ => rfl)) (fun h => absurd h (by decide)) (fun h => absurd h (by decide))
  rw [xP_c] at hC
  obtain ⟨ad7, had7⟩ : ∃ z : Nat → Nat → Nat, z = adx ad6 11 0 (p2 + 1) := ⟨_, rfl⟩
  rw [← had7] at hC
  have r0 : ad7 11 0 = (p2 + 1) := by rw [had7, adx_s]
  have r1 : ad7 11 1 = (p2 + 2) := by rw [had7, adx_k (f0 := 11) (n0 := 0) (f := 11) (n := 1) (by decide), had6, adx_s]
  have hC := c_abs hC 10 0 (show ¬ (10, 0) ∈ ([(11, 0), (11, 1), (5, 0), (4, 0), (3, 0), (2, 0), (1, 0)] : List (Nat × Nat)) by decide) SC1 (fun _ _ _ => 0) GC0 (fun _ _ _ _ => rfl) (fun _ _ _ _ => rfl) (fun f n i h => if_neg (fun z => by have h9 : (f, n) ∈ ([(11, 0), (11, 1), (5, 0), (4, 0), (3, 0), (2, 0), (1, 0)] : List (Nat × Nat)) := h; rw [z.1] at h9; simp at h9)) (c_arq (f0 := 10) (n0 := 0) (hC.2.2.1 _ List.mem_cons_self).1 ⟨rfl, rfl, rfl⟩ adx_s (fun i hi => by rcases (show i = 0 ∨ i = 1 by omega) with rfl | rfl; exact congrArg some r0.symm; exact congrArg some r1.symm)) (fun h => absurd h (by decide)) (fun _ i m hi h => by rcases (show i = 0 ∨ i = 1 from (by have h8 : i < 2 := hi; omega)) with rfl | rfl <;> (cases h; show (_, _) ∈ (_ : List (Nat × Nat)); decide))
  rw [xP_c] at hC
  obtain ⟨ad8, had8⟩ : ∃ z : Nat → Nat → Nat, z = adx ad7 10 0 p2 := ⟨_, rfl⟩
  rw [← had8] at hC
  have hC := c_abs hC 9 0 (show ¬ (9, 0) ∈ ([(10, 0), (11, 0), (11, 1), (5, 0), (4, 0), (3, 0), (2, 0), (1, 0)] : List (Nat × Nat)) by decide) SC1 (fun _ _ _ => 0) GC0 (fun _ _ _ _ => rfl) (fun _ _ _ _ => rfl) (fun _ _ _ _ => rfl) (c_arr (f0 := 9) (n0 := 0) (hC.2.2.1 _ List.mem_cons_self).1 ⟨by decide, rfl, rfl⟩ adx_s (fun _ _ => rfl)) (fun h => absurd h (by decide)) (fun h => absurd h (by decide))
  rw [xP_c] at hC
  obtain ⟨ad9, had9⟩ : ∃ z : Nat → Nat → Nat, z = adx ad8 9 0 p1 := ⟨_, rfl⟩
  rw [← had9] at hC
  have r9 : ad9 9 0 = p1 := by rw [had9, adx_s]
  have r10 : ad9 10 0 = p2 := by rw [had9, adx_k (f0 := 9) (n0 := 0) (f := 10) (n := 0) (by decide), had8, adx_s]
  have hC := c_abs hC 6 0 (show ¬ (6, 0) ∈ ([(9, 0), (10, 0), (11, 0), (11, 1), (5, 0), (4, 0), (3, 0), (2, 0), (1, 0)] : List (Nat × Nat)) by decide) SC1 (fun _ _ _ => 0) GC0 (fun _ _ _ _ => rfl) (fun _ _ _ _ => rfl) (fun _ _ _ _ => rfl) (c_cell (f0 := 6) (n0 := 0) (hC.2.2.1 _ List.mem_cons_self).1 ⟨rfl, rfl, rfl, rfl⟩ adx_s (fun k hk => by rcases (show k = 0 ∨ k = 1 ∨ k = 2 by omega) with rfl | rfl | rfl; exact congrArg Value.ref r9.symm; rfl; exact congrArg Value.ref r10.symm)) (fun _ k hk h => by rcases (show k = 0 ∨ k = 1 ∨ k = 2 from (by have h8 : k < 3 := hk; omega)) with rfl | rfl | rfl; (show (_, _) ∈ (_ : List (Nat × Nat)); decide); exact absurd rfl h; (show (_, _) ∈ (_ : List (Nat × Nat)); decide)) (fun h => absurd h (by decide))
  rw [xP_c] at hC
  obtain ⟨ad10, had10⟩ : ∃ z : Nat → Nat → Nat, z = adx ad9 6 0 q6 := ⟨_, rfl⟩
  rw [← had10] at hC
  refine W.widen (k := 10) (n := 3786) (by decide) (by decide) ?_
  have hC : c_B D aC ad10 (xP [(6, 0), (9, 0), (10, 0), (11, 0), (11, 1), (5, 0), (4, 0), (3, 0), (2, 0), (1, 0)]) (fun q => q = h0 ∨ s.heap.size ≤ q) SC1 (fun _ _ _ => 0) GC0 [(h0, .inr (6, [.ref q1, .ref q2, .ref q3, .ref q4, .ref q5, .null, .null, .null, .int 0, .int 0, .int 0, .int 0, .int 0, .int 0, .int 0]))] s.heap H locs := hC
  refine cr_put (v := .ref q6) hx hb hw hown hK hC 5 rfl us6 tk6 nm6 (by decide) fl_6_43 (Or.inr ⟨rfl, hin, rfl⟩) rfl rfl (Nat.le_of_ble_eq_true rfl) d6_init_59 (fun H locs hC => ?_)
  have hC : c_B D aC ad10 (xP [(6, 0), (9, 0), (10, 0), (11, 0), (11, 1), (5, 0), (4, 0), (3, 0), (2, 0), (1, 0)]) (fun q => q = h0 ∨ s.heap.size ≤ q) SC1 (fun _ _ _ => 0) GC0 [(h0, .inr (6, [.ref q1, .ref q2, .ref q3, .ref q4, .ref q5, .ref q6, .null, .null, .int 0, .int 0, .int 0, .int 0, .int 0, .int 0, .int 0]))] s.heap H locs := hC
  refine lv_aload_n hx hb d6_init_62 rfl (lv_at hl 0 rfl) ?_
  refine lv_bipush (v := 64) hx hb d6_init_63 (by decide) ?_
  refine cr_newa (atype := .int) (ty := .int) (t0 := 0) (N := 64) hx hb rfl (hw _ ac_int) hK hC hZn rfl (hK.2 0 _ rfl).2 rfl (by decide) (by decide) (by decide) (by decide) (by decide) d6_init_65 (fun q7 H eq7 hC => ?_)
  have hC := c_abs hC 7 0 (show ¬ (7, 0) ∈ ([(6, 0), (9, 0), (10, 0), (11, 0), (11, 1), (5, 0), (4, 0), (3, 0), (2, 0), (1, 0)] : List (Nat × Nat)) by decide) SC1 (fun _ _ _ => 0) GC0 (fun _ _ _ _ => rfl) (fun _ _ _ _ => rfl) (fun _ _ _ _ => rfl) (c_arr (f0 := 7) (n0 := 0) (hC.2.2.1 _ List.mem_cons_self).1 ⟨by decide, rfl, rfl⟩ adx_s (fun _ _ => rfl)) (fun h => absurd h (by decide)) (fun h => absurd h (by decide))
  rw [xP_c] at hC
  obtain ⟨ad11, had11⟩ : ∃ z : Nat → Nat → Nat, z = adx ad10 7 0 q7 := ⟨_, rfl⟩
  rw [← had11] at hC
  refine W.widen (k := 11) (n := 3850) (by decide) (by decide) ?_
  refine cr_put (v := .ref q7) hx hb hw hown hK hC 6 rfl us6 tk6 nm6 (by decide) fl_6_47 (Or.inr ⟨rfl, hin, rfl⟩) rfl rfl (Nat.le_of_ble_eq_true rfl) d6_init_67 (fun H locs hC => ?_)
  have hC : c_B D aC ad11 (xP [(7, 0), (6, 0), (9, 0), (10, 0), (11, 0), (11, 1), (5, 0), (4, 0), (3, 0), (2, 0), (1, 0)]) (fun q => q = h0 ∨ s.heap.size ≤ q) SC1 (fun _ _ _ => 0) GC0 [(h0, .inr (6, [.ref q1, .ref q2, .ref q3, .ref q4, .ref q5, .ref q6, .ref q7, .null, .int 0, .int 0, .int 0, .int 0, .int 0, .int 0, .int 0]))] s.heap H locs := hC
  refine lv_aload_n hx hb d6_init_70 rfl (lv_at hl 0 rfl) ?_
  refine lv_bipush (v := 64) hx hb d6_init_71 (by decide) ?_
  refine cr_newa (atype := .int) (ty := .int) (t0 := 0) (N := 64) hx hb rfl (hw _ ac_int) hK hC hZn rfl (hK.2 0 _ rfl).2 rfl (by decide) (by decide) (by decide) (by decide) (by decide) d6_init_73 (fun q8 H eq8 hC => ?_)
  have hC := c_abs hC 8 0 (show ¬ (8, 0) ∈ ([(7, 0), (6, 0), (9, 0), (10, 0), (11, 0), (11, 1), (5, 0), (4, 0), (3, 0), (2, 0), (1, 0)] : List (Nat × Nat)) by decide) SC1 (fun _ _ _ => 0) GC0 (fun _ _ _ _ => rfl) (fun _ _ _ _ => rfl) (fun _ _ _ _ => rfl) (c_arr (f0 := 8) (n0 := 0) (hC.2.2.1 _ List.mem_cons_self).1 ⟨by decide, rfl, rfl⟩ adx_s (fun _ _ => rfl)) (fun h => absurd h (by decide)) (fun h => absurd h (by decide))
  rw [xP_c] at hC
  obtain ⟨ad12, had12⟩ : ∃ z : Nat → Nat → Nat, z = adx ad11 8 0 q8 := ⟨_, rfl⟩
  rw [← had12] at hC
  refine W.widen (k := 12) (n := 3914) (by decide) (by decide) ?_
  refine cr_put (v := .ref q8) hx hb hw hown hK hC 7 rfl us6 tk6 nm6 (by decide) fl_6_51 (Or.inr ⟨rfl, hin, rfl⟩) rfl rfl (Nat.le_of_ble_eq_true rfl) d6_init_75 (fun H locs hC => ?_)
  have hC : c_B D aC ad12 (xP [(8, 0), (7, 0), (6, 0), (9, 0), (10, 0), (11, 0), (11, 1), (5, 0), (4, 0), (3, 0), (2, 0), (1, 0)]) (fun q => q = h0 ∨ s.heap.size ≤ q) SC1 (fun _ _ _ => 0) GC0 [(h0, .inr (6, [.ref q1, .ref q2, .ref q3, .ref q4, .ref q5, .ref q6, .ref q7, .ref q8, .int 0, .int 0, .int 0, .int 0, .int 0, .int 0, .int 0]))] s.heap H locs := hC
  refine lv_aload_n hx hb d6_init_78 rfl (lv_at hl 0 rfl) ?_
  refine lv_iconst (v := 0) hx hb d6_init_79 (by decide) ?_
  refine cr_put (v := .int 0) hx hb hw hown hK hC 8 rfl us6 tk6 nm6 (by decide) fl_6_54 (Or.inl rfl) rfl rfl (Nat.le_of_ble_eq_true rfl) d6_init_80 (fun H locs hC => ?_)
  have hC : c_B D aC ad12 (xP [(8, 0), (7, 0), (6, 0), (9, 0), (10, 0), (11, 0), (11, 1), (5, 0), (4, 0), (3, 0), (2, 0), (1, 0)]) (fun q => q = h0 ∨ s.heap.size ≤ q) SC1 (fun _ _ _ => 0) GC0 [(h0, .inr (6, [.ref q1, .ref q2, .ref q3, .ref q4, .ref q5, .ref q6, .ref q7, .ref q8, .int 0, .int 0, .int 0, .int 0, .int 0, .int 0, .int 0]))] s.heap H locs := hC
  refine lv_aload_n hx hb d6_init_83 rfl (lv_at hl 0 rfl) ?_
  refine lv_iconst (v := (-1)) hx hb d6_init_84 (by decide) ?_
  refine cr_put (v := .int (-1)) hx hb hw hown hK hC 9 rfl us6 tk6 nm6 (by decide) fl_6_58 (Or.inl rfl) rfl rfl (Nat.le_of_ble_eq_true rfl) d6_init_85 (fun H locs hC => ?_)
  have hC : c_B D aC ad12 (xP [(8, 0), (7, 0), (6, 0), (9, 0), (10, 0), (11, 0), (11, 1), (5, 0), (4, 0), (3, 0), (2, 0), (1, 0)]) (fun q => q = h0 ∨ s.heap.size ≤ q) SC1 (fun _ _ _ => 0) GC0 [(h0, .inr (6, [.ref q1, .ref q2, .ref q3, .ref q4, .ref q5, .ref q6, .ref q7, .ref q8, .int 0, .int (-1), .int 0, .int 0, .int 0, .int 0, .int 0]))] s.heap H locs := hC
  refine lv_aload_n hx hb d6_init_88 rfl (lv_at hl 0 rfl) ?_
  refine lv_iconst (v := 0) hx hb d6_init_89 (by decide) ?_
  refine cr_put (v := .int 0) hx hb hw hown hK hC 10 rfl us6 tk6 nm6 (by decide) fl_6_61 (Or.inl rfl) rfl rfl (Nat.le_of_ble_eq_true rfl) d6_init_90 (fun H locs hC => ?_)
  have hC : c_B D aC ad12 (xP [(8, 0), (7, 0), (6, 0), (9, 0), (10, 0), (11, 0), (11, 1), (5, 0), (4, 0), (3, 0), (2, 0), (1, 0)]) (fun q => q = h0 ∨ s.heap.size ≤ q) SC1 (fun _ _ _ => 0) GC0 [(h0, .inr (6, [.ref q1, .ref q2, .ref q3, .ref q4, .ref q5, .ref q6, .ref q7, .ref q8, .int 0, .int (-1), .int 0, .int 0, .int 0, .int 0, .int 0]))] s.heap H locs := hC
  refine lv_aload_n hx hb d6_init_93 rfl (lv_at hl 0 rfl) ?_
  refine lv_iconst (v := (-1)) hx hb d6_init_94 (by decide) ?_
  refine cr_put (v := .int (-1)) hx hb hw hown hK hC 11 rfl us6 tk6 nm6 (by decide) fl_6_64 (Or.inl rfl) rfl rfl (Nat.le_of_ble_eq_true rfl) d6_init_95 (fun H locs hC => ?_)
  have hC : c_B D aC ad12 (xP [(8, 0), (7, 0), (6, 0), (9, 0), (10, 0), (11, 0), (11, 1), (5, 0), (4, 0), (3, 0), (2, 0), (1, 0)]) (fun q => q = h0 ∨ s.heap.size ≤ q) SC1 (fun _ _ _ => 0) GC0 [(h0, .inr (6, [.ref q1, .ref q2, .ref q3, .ref q4, .ref q5, .ref q6, .ref q7, .ref q8, .int 0, .int (-1), .int 0, .int (-1), .int 0, .int 0, .int 0]))] s.heap H locs := hC
  refine lv_aload_n hx hb d6_init_98 rfl (lv_at hl 0 rfl) ?_
  refine lv_iconst (v := 0) hx hb d6_init_99 (by decide) ?_
  refine cr_put (v := .int 0) hx hb hw hown hK hC 12 rfl us6 tk6 nm6 (by decide) fl_6_67 (Or.inl rfl) rfl rfl (Nat.le_of_ble_eq_true rfl) d6_init_100 (fun H locs hC => ?_)
  have hC : c_B D aC ad12 (xP [(8, 0), (7, 0), (6, 0), (9, 0), (10, 0), (11, 0), (11, 1), (5, 0), (4, 0), (3, 0), (2, 0), (1, 0)]) (fun q => q = h0 ∨ s.heap.size ≤ q) SC1 (fun _ _ _ => 0) GC0 [(h0, .inr (6, [.ref q1, .ref q2, .ref q3, .ref q4, .ref q5, .ref q6, .ref q7, .ref q8, .int 0, .int (-1), .int 0, .int (-1), .int 0, .int 0, .int 0]))] s.heap H locs := hC
  refine lv_aload_n hx hb d6_init_103 rfl (lv_at hl 0 rfl) ?_
  refine lv_iconst (v := 0) hx hb d6_init_104 (by decide) ?_
  refine cr_put (v := .int 0) hx hb hw hown hK hC 13 rfl us6 tk6 nm6 (by decide) fl_6_70 (Or.inl rfl) rfl rfl (Nat.le_of_ble_eq_true rfl) d6_init_105 (fun H locs hC => ?_)
  have hC : c_B D aC ad12 (xP [(8, 0), (7, 0), (6, 0), (9, 0), (10, 0), (11, 0), (11, 1), (5, 0), (4, 0), (3, 0), (2, 0), (1, 0)]) (fun q => q = h0 ∨ s.heap.size ≤ q) SC1 (fun _ _ _ => 0) GC0 [(h0, .inr (6, [.ref q1, .ref q2, .ref q3, .ref q4, .ref q5, .ref q6, .ref q7, .ref q8, .int 0, .int (-1), .int 0, .int (-1), .int 0, .int 0, .int 0]))] s.heap H locs := hC
  refine lv_aload_n hx hb d6_init_108 rfl (lv_at hl 0 rfl) ?_
  refine lv_iconst (v := 0) hx hb d6_init_109 (by decide) ?_
  refine cr_put (v := .int 0) hx hb hw hown hK hC 14 rfl us6 tk6 nm6 (by decide) fl_6_73 (Or.inl rfl) rfl rfl (Nat.le_of_ble_eq_true rfl) d6_init_110 (fun H locs hC => ?_)
  have hC : c_B D aC ad12 (xP [(8, 0), (7, 0), (6, 0), (9, 0), (10, 0), (11, 0), (11, 1), (5, 0), (4, 0), (3, 0), (2, 0), (1, 0)]) (fun q => q = h0 ∨ s.heap.size ≤ q) SC1 (fun _ _ _ => 0) GC0 [(h0, .inr (6, [.ref q1, .ref q2, .ref q3, .ref q4, .ref q5, .ref q6, .ref q7, .ref q8, .int 0, .int (-1), .int 0, .int (-1), .int 0, .int 0, .int 0]))] s.heap H locs := hC
  have f0 : ad12 1 0 = q1 := by rw [had12, adx_k (f0 := 8) (n0 := 0) (f := 1) (n := 0) (by decide), had11, adx_k (f0 := 7) (n0 := 0) (f := 1) (n := 0) (by decide), had10, adx_k (f0 := 6) (n0 := 0) (f := 1) (n := 0) (by decide), had9, adx_k (f0 := 9) (n0 := 0) (f := 1) (n := 0) (by decide), had8, adx_k (f0 := 10) (n0 := 0) (f := 1) (n := 0) (by decide), had7, adx_k (f0 := 11) (n0 := 0) (f := 1) (n := 0) (by decide), had6, adx_k (f0 := 11) (n0 := 1) (f := 1) (n := 0) (by decide), had5, adx_k (f0 := 5) (n0 := 0) (f := 1) (n := 0) (by decide), had4, adx_k (f0 := 4) (n0 := 0) (f := 1) (n := 0) (by decide), had3, adx_k (f0 := 3) (n0 := 0) (f := 1) (n := 0) (by decide), had2, adx_k (f0 := 2) (n0 := 0) (f := 1) (n := 0) (by decide), had1, adx_s]
  have f1 : ad12 2 0 = q2 := by rw [had12, adx_k (f0 := 8) (n0 := 0) (f := 2) (n := 0) (by decide), had11, adx_k (f0 := 7) (n0 := 0) (f := 2) (n := 0) (by decide), had10, adx_k (f0 := 6) (n0 := 0) (f := 2) (n := 0) (by decide), had9, adx_k (f0 := 9) (n0 := 0) (f := 2) (n := 0) (by decide), had8, adx_k (f0 := 10) (n0 := 0) (f := 2) (n := 0) (by decide), had7, adx_k (f0 := 11) (n0 := 0) (f := 2) (n := 0) (by decide), had6, adx_k (f0 := 11) (n0 := 1) (f := 2) (n := 0) (by decide), had5, adx_k (f0 := 5) (n0 := 0) (f := 2) (n := 0) (by decide), had4, adx_k (f0 := 4) (n0 := 0) (f := 2) (n := 0) (by decide), had3, adx_k (f0 := 3) (n0 := 0) (f := 2) (n := 0) (by decide), had2, adx_s]
  have f2 : ad12 3 0 = q3 := by rw [had12, adx_k (f0 := 8) (n0 := 0) (f := 3) (n := 0) (by decide), had11, adx_k (f0 := 7) (n0 := 0) (f := 3) (n := 0) (by decide), had10, adx_k (f0 := 6) (n0 := 0) (f := 3) (n := 0) (by decide), had9, adx_k (f0 := 9) (n0 := 0) (f := 3) (n := 0) (by decide), had8, adx_k (f0 := 10) (n0 := 0) (f := 3) (n := 0) (by decide), had7, adx_k (f0 := 11) (n0 := 0) (f := 3) (n := 0) (by decide), had6, adx_k (f0 := 11) (n0 := 1) (f := 3) (n := 0) (by decide), had5, adx_k (f0 := 5) (n0 := 0) (f := 3) (n := 0) (by decide), had4, adx_k (f0 := 4) (n0 := 0) (f := 3) (n := 0) (by decide), had3, adx_s]
  have f3 : ad12 4 0 = q4 := by rw [had12, adx_k (f0 := 8) (n0 := 0) (f := 4) (n := 0) (by decide), had11, adx_k (f0 := 7) (n0 := 0) (f := 4) (n := 0) (by decide), had10, adx_k (f0 := 6) (n0 := 0) (f := 4) (n := 0) (by decide), had9, adx_k (f0 := 9) (n0 := 0) (f := 4) (n := 0) (by decide), had8, adx_k (f0 := 10) (n0 := 0) (f := 4) (n := 0) (by decide), had7, adx_k (f0 := 11) (n0 := 0) (f := 4) (n := 0) (by decide), had6, adx_k (f0 := 11) (n0 := 1) (f := 4) (n := 0) (by decide), had5, adx_k (f0 := 5) (n0 := 0) (f := 4) (n := 0) (by decide), had4, adx_s]
  have f4 : ad12 5 0 = q5 := by rw [had12, adx_k (f0 := 8) (n0 := 0) (f := 5) (n := 0) (by decide), had11, adx_k (f0 := 7) (n0 := 0) (f := 5) (n := 0) (by decide), had10, adx_k (f0 := 6) (n0 := 0) (f := 5) (n := 0) (by decide), had9, adx_k (f0 := 9) (n0 := 0) (f := 5) (n := 0) (by decide), had8, adx_k (f0 := 10) (n0 := 0) (f := 5) (n := 0) (by decide), had7, adx_k (f0 := 11) (n0 := 0) (f := 5) (n := 0) (by decide), had6, adx_k (f0 := 11) (n0 := 1) (f := 5) (n := 0) (by decide), had5, adx_s]
  have f5 : ad12 6 0 = q6 := by rw [had12, adx_k (f0 := 8) (n0 := 0) (f := 6) (n := 0) (by decide), had11, adx_k (f0 := 7) (n0 := 0) (f := 6) (n := 0) (by decide), had10, adx_s]
  have f6 : ad12 7 0 = q7 := by rw [had12, adx_k (f0 := 8) (n0 := 0) (f := 7) (n := 0) (by decide), had11, adx_s]
  have f7 : ad12 8 0 = q8 := by rw [had12, adx_s]
  have hv : ∀ k, k < 15 → vp_V [.ref q1, .ref q2, .ref q3, .ref q4, .ref q5, .ref q6, .ref q7, .ref q8, .int 0, .int (-1), .int 0, .int (-1), .int 0, .int 0, .int 0] k = s_fv (adx ad12 0 0 h0) SC0 0 0 k := by
    intro k hk
    rcases (show k = 0 ∨ k = 1 ∨ k = 2 ∨ k = 3 ∨ k = 4 ∨ k = 5 ∨ k = 6 ∨ k = 7 ∨ k = 8 ∨ k = 9 ∨ k = 10 ∨ k = 11 ∨ k = 12 ∨ k = 13 ∨ k = 14 by omega) with rfl | rfl | rfl | rfl | rfl | rfl | rfl | rfl | rfl | rfl | rfl | rfl | rfl | rfl | rfl
    · exact congrArg Value.ref f0.symm
    · exact congrArg Value.ref f1.symm
    · exact congrArg Value.ref f2.symm
    · exact congrArg Value.ref f3.symm
    · exact congrArg Value.ref f4.symm
    · exact congrArg Value.ref f5.symm
    · exact congrArg Value.ref f6.symm
    · exact congrArg Value.ref f7.symm
    · rfl
    · rfl
    · rfl
    · rfl
    · rfl
    · rfl
    · rfl
  have hC := c_abs hC 0 0 (show ¬ (0, 0) ∈ ([(8, 0), (7, 0), (6, 0), (9, 0), (10, 0), (11, 0), (11, 1), (5, 0), (4, 0), (3, 0), (2, 0), (1, 0)] : List (Nat × Nat)) by decide) SC0 (fun _ _ _ => 0) GC0 (fun f n k h => upO_n (fun z => by have h9 : (f, n) ∈ ([(8, 0), (7, 0), (6, 0), (9, 0), (10, 0), (11, 0), (11, 1), (5, 0), (4, 0), (3, 0), (2, 0), (1, 0)] : List (Nat × Nat)) := h; rw [z.1, z.2] at h9; exact absurd h9 (by decide))) (fun _ _ _ _ => rfl) (fun _ _ _ _ => rfl) (c_cell (f0 := 0) (n0 := 0) (hC.2.2.1 _ List.mem_cons_self).1 ⟨rfl, rfl, rfl, rfl⟩ adx_s hv) (fun _ k hk h => by have h7 := fr0 k hk h; rw [show xP _ (fr 0 k) 0 = ((fr 0 k, 0) ∈ ([(8, 0), (7, 0), (6, 0), (9, 0), (10, 0), (11, 0), (11, 1), (5, 0), (4, 0), (3, 0), (2, 0), (1, 0)] : List (Nat × Nat))) from rfl]; exact h7) (fun h => absurd h (by decide))
  rw [xP_c] at hC
  obtain ⟨ad13, had13⟩ : ∃ z : Nat → Nat → Nat, z = adx ad12 0 0 h0 := ⟨_, rfl⟩
  rw [← had13] at hC
  have h00 : ad13 0 0 = h0 := by rw [had13]; exact adx_s
  rw [xB_0, SB_0, GB_0] at hC
  refine lv_iconst (v := 0) hx hb d6_init_113 (by decide) ?_
  refine lv_istore_n (lv' := [(1, .int 0), (0, .ref h0)]) hx hb d6_init_114 rfl hl (by decide) rfl (fun ls hl => ?_)
  exact k6_init_115 hx hb hml hr hw hown hK hlocks hE 65 0 (by omega) (by omega) h00 hC (lv_sub hl [1, 0] rfl)
