/-! cells that are being made: a list beside the store; worked on at its head, then taken into the store -/
def s_L (X : Nat → Nat → Prop) (G : sG) : Prop := (∀ f n k, X f n → fk f = 0 → k < fl f → fr f k ≠ 0 → X (fr f k) n) ∧ (∀ f n i m, X f n → fk f = 3 → i < fl f → G f i = some m → X (fe f) m)
def c_B (D : va_G) (aC : Nat → ClassId) (ad : Nat → Nat → Nat) (X : Nat → Nat → Prop) (Z : Nat → Prop) (S A : sS) (G : sG) (ws : va_W) (H0 H : Heap) (locs : List Loc) : Prop := s_B D aC ad X Z S A G H0 H locs ∧ s_L X G ∧ (∀ q ∈ ws, va_at D cls q H ∧ Z q.1 ∧ ¬ s_N ad X q.1) ∧ (ws.map (fun q => q.1)).Nodup
def adx (ad : Nat → Nat → Nat) (f0 n0 a : Nat) : Nat → Nat → Nat := fun f n => if f = f0 ∧ n = n0 then a else ad f n
def Xx (X : Nat → Nat → Prop) (f0 n0 : Nat) : Nat → Nat → Prop := fun f n => X f n ∨ (f = f0 ∧ n = n0)
theorem adx_s {ad : Nat → Nat → Nat} {f0 n0 a : Nat} : adx ad f0 n0 a f0 n0 = a := if_pos ⟨rfl, rfl⟩
theorem adx_o {ad : Nat → Nat → Nat} {X : Nat → Nat → Prop} {f0 n0 a f n : Nat} (h : ¬ X f0 n0) (hx : X f n) : adx ad f0 n0 a f n = ad f n := if_neg (fun q => h (by rw [← q.1, ← q.2]; exact hx))
theorem arrV_ext {c : ClassId} {N : Nat} {g h : Nat → Value} (e : ∀ i, i < N → g i = h i) : arrV c N g = arrV c N h := by
  have : (fun j : Fin N => g j.val) = (fun j : Fin N => h j.val) := funext fun j => e j.val j.isLt
  unfold arrV
  rw [this]
theorem s_at.to {D : va_G} {aC : Nat → ClassId} {ad ad1 : Nat → Nat → Nat} {S S1 A A1 : sS} {G G1 : sG} {f n : Nat} {H : Heap} (h : s_at D aC ad S A G f n H) (ha : ad1 f n = ad f n) (ho : fk f = 0 → ∀ k, k < fl f → s_fv ad S f n k = s_fv ad1 S1 f n k) (hr : fk f ≠ 0 → ∀ i, i < fl f → s_av ad A G f n i = s_av ad1 A1 G1 f n i) : s_at D aC ad1 S1 A1 G1 f n H := by
  unfold s_at at h ⊢
  rw [ha]
  by_cases c : fk f = 0
  · rw [if_pos c] at h ⊢
    exact h.to (ho c)
  · rw [if_neg c] at h ⊢
    rw [h, arrV_ext (hr c)]
theorem c_abs {D : va_G} {aC : Nat → ClassId} {ad : Nat → Nat → Nat} {X : Nat → Nat → Prop} {Z : Nat → Prop} {S A : sS} {G : sG} {a : Nat} {e : va_E} {ws : va_W} {H0 H : Heap} {locs : List Loc} (hC : c_B D aC ad X Z S A G ((a, e) :: ws) H0 H locs) (f0 n0 : Nat) (hx : ¬ X f0 n0) (S1 A1 : sS) (G1 : sG) (hS : ∀ f n k, X f n → S1 f n k = S f n k) (hA : ∀ f n k, X f n → A1 f n k = A f n k) (hG : ∀ f n i, X f n → G1 f i = G f i)
    (hcell : s_at D aC (adx ad f0 n0 a) S1 A1 G1 f0 n0 H) (hl1 : fk f0 = 0 → ∀ k, k < fl f0 → fr f0 k ≠ 0 → X (fr f0 k) n0) (hl2 : fk f0 = 3 → ∀ i m, i < fl f0 → G1 f0 i = some m → X (fe f0) m) : c_B D aC (adx ad f0 n0 a) (Xx X f0 n0) Z S1 A1 G1 ws H0 H locs := by
  obtain ⟨⟨hJ, hP, hV, hZ⟩, ⟨hL1, hL2⟩, hw, hnd⟩ := hC
  obtain ⟨-, hZa, hna⟩ := hw (a, e) List.mem_cons_self
  have hnd2 := List.nodup_cons.mp hnd
  have inj : ∀ f n, X f n → ad f n ≠ a := fun f n h q => hna ⟨f, n, h, q⟩
  refine ⟨⟨?_, ?_, hV, ?_⟩, ⟨?_, ?_⟩, ?_, hnd2.2⟩
  · intro f n f1 n1 h h1 q
    rcases h with h | ⟨rfl, rfl⟩ <;> rcases h1 with h1 | ⟨rfl, rfl⟩
    · rw [adx_o hx h, adx_o hx h1] at q; exact hJ _ _ _ _ h h1 q
    · rw [adx_o hx h, adx_s] at q; exact absurd q (inj _ _ h)
    · rw [adx_s, adx_o hx h1] at q; exact absurd q.symm (inj _ _ h1)
    · exact ⟨rfl, rfl⟩
  · intro f n h
    rcases h with h | ⟨rfl, rfl⟩
    · refine (hP f n h).to (adx_o hx h) (fun c k hk => ?_) (fun c i hi => ?_)
      · unfold s_fv
        by_cases z : fr f k = 0
        · rw [if_pos z, if_pos z, hS f n k h]
        · rw [if_neg z, if_neg z, adx_o hx (hL1 f n k h c hk z)]
      · unfold s_av
        by_cases z : fk f = 3
        · rw [if_pos z, if_pos z, hG f n i h]
          cases eg : G f i with
          | none => rfl
          | some m =>
            show va_rf (some (ad (fe f) m)) = va_rf (some (adx ad f0 n0 a (fe f) m))
            rw [adx_o hx (hL2 f n i m h z hi eg)]
        · rw [if_neg z, if_neg z, hA f n i h]
    · exact hcell
  · intro f n h
    rcases h with h | ⟨rfl, rfl⟩
    · rw [adx_o hx h]; exact hZ f n h
    · rw [adx_s]; exact hZa
  · intro f n k h c hk z
    rcases h with h | ⟨rfl, rfl⟩
    · exact Or.inl (hL1 f n k h c hk z)
    · exact Or.inl (hl1 c k hk z)
  · intro f n i m h c hi eg
    rcases h with h | ⟨rfl, rfl⟩
    · rw [hG f n i h] at eg; exact Or.inl (hL2 f n i m h c hi eg)
    · exact Or.inl (hl2 c i m hi eg)
  · intro q hq
    obtain ⟨q1, q2, q3⟩ := hw q (List.mem_cons_of_mem _ hq)
    refine ⟨q1, q2, fun z => ?_⟩
    obtain ⟨f, n, h, ez⟩ := z
    rcases h with h | ⟨rfl, rfl⟩
    · rw [adx_o hx h] at ez; exact q3 ⟨f, n, h, ez⟩
    · rw [adx_s] at ez
      exact hnd2.1 (List.mem_map.mpr ⟨q, hq, ez.symm⟩)
/-- everything that stood stays, when cells are pushed -/
theorem c_grow {D : va_G} {aC : Nat → ClassId} {ad : Nat → Nat → Nat} {X : Nat → Nat → Prop} {Z : Nat → Prop} {S A : sS} {G : sG} {ws : va_W} {H0 H H1 : Heap} {locs : List Loc} (hC : c_B D aC ad X Z S A G ws H0 H locs) (hz : H.size ≤ H1.size) (o : ∀ q : Nat, q < H.size → H1[q]? = H[q]?) : c_B D aC ad X Z S A G ws H0 H1 locs := by
  obtain ⟨⟨hJ, hP, hV, hZ⟩, hL, hw, hnd⟩ := hC
  refine ⟨⟨hJ, fun f n h => (hP f n h).kept (o _ (hP f n h).lt), ⟨Nat.le_trans hV.1 hz, fun q h1 h2 => (o q (Nat.lt_of_lt_of_le h1 hV.1)).trans (hV.2.1 q h1 h2), hV.2.2⟩, hZ⟩, hL, fun q hq => ?_, hnd⟩
  obtain ⟨q1, q2, q3⟩ := hw q hq
  exact ⟨q1.kept (o _ q1.lt), q2, q3⟩
theorem c_push {D : va_G} {aC : Nat → ClassId} {ad : Nat → Nat → Nat} {X : Nat → Nat → Prop} {Z : Nat → Prop} {S A : sS} {G : sG} {ws : va_W} {H0 H H1 : Heap} {locs : List Loc} {e : va_E} (hC : c_B D aC ad X Z S A G ws H0 H locs) (hZn : ∀ q, H0.size ≤ q → Z q) (hz : H1.size = H.size + 1) (o : ∀ q : Nat, q < H.size → H1[q]? = H[q]?) (he : va_at D cls (H.size, e) H1) : c_B D aC ad X Z S A G ((H.size, e) :: ws) H0 H1 locs := by
  have hG := c_grow hC (by omega) o
  obtain ⟨⟨hJ, hP, hV, hZ⟩, hL, hw, hnd⟩ := hC
  refine ⟨hG.1, hG.2.1, fun q hq => ?_, List.nodup_cons.mpr ⟨fun q => ?_, hnd⟩⟩
  · rcases List.mem_cons.mp hq with rfl | hq
    · refine ⟨he, hZn _ hV.1, fun z => ?_⟩
      obtain ⟨f, n, h, ez⟩ := z
      have := (hP f n h).lt
      have ez : ad f n = H.size := ez
      omega
    · exact hG.2.2.1 q hq
  · obtain ⟨x, hx, ex⟩ := List.mem_map.mp q
    have := (hw x hx).1.lt
    have ex : x.1 = H.size := ex
    omega
section CROW
variable {p : Program} {l : Launch} {e : Env} {R : Room} {s : State} {m : MethodId} {args : Array Value} {below : List Frame} {meth : Method} {c : Code} {H : Heap} {locs : List Loc} {cells slots : Nat} {Q : State → Prop}
variable {cc : ByteArray} {pc : Nat} {ls : Array Slot} {rest : List Value} {D : va_G} {aC : Nat → ClassId} {ad : Nat → Nat → Nat} {X : Nat → Nat → Prop} {Z : Nat → Prop} {S A : sS} {G : sG} {H0 : Heap} {ws : va_W}
theorem cr_new (hexec : p.tables.exec = Jvm.exec) (hb : c.code = cc) {own C : String} {T : u_T} {N ci index : Nat} {tyf : Nat → FieldType} (hw : ∀ w ∈ wall, w.before args s = true) (hown : s.vm.findClass own = some m.cls) (hK : va_K D cls (tyl aC) s) (hC : c_B D aC ad X Z S A G ws H0 H locs) (hZn : ∀ q, H0.size ≤ q → Z q) (hin : ∀ w ∈ u_ws C T N, w ∈ wall) (hty : ∀ k, k < N → parseFieldDescriptor (T k).2.2.1 = some (tyf k)) (hcl : Cond.classLink own index C ∈ wall) (hinst : Cond.instantiable C N ∈ wall) (hini : Cond.initialized C ∈ wall) (hc : cls[ci]? = some (C, T, N)) {fs : List Value} (hfs : ∀ j, j < N → defaultValue (tyf j) = vp_V fs j) (hcells : cells + 1 ≤ R.cells) (hslots : slots + N ≤ R.slots) (hdg : decode cc pc = .ok (.new index, 3))
    (kk : ∀ (q : Nat) (H1 : Heap), q = H.size → c_B D aC ad X Z S A G ((q, .inr (ci, fs)) :: ws) H0 H1 locs → W p l e R s m args below meth c H1 locs (cells + 1) (slots + N) Q (F0 m (pc + 3) ls (.ref q :: rest))) : W p l e R s m args below meth c H locs cells slots Q (F0 m pc ls rest) := by
  have hKn := hK.1 ci _ hc
  refine W.newcK hexec hb hown (hw _ hcl) (hw _ hinst) (hw _ hini) rfl hdg hcells hslots hKn.2.1 rfl fun H1 kC hkC e1 z1 o1 => ?_
  exact kk H.size H1 rfl (c_push hC hZn z1 o1 ⟨_, hc, (u_born tyf hw hin hKn hkC e1 hty).to hfs⟩)
theorem cr_newa (hexec : p.tables.exec = Jvm.exec) (hb : c.code = cc) {atype : ArrayType} {ty : FieldType} (hty : newarray.typeOf atype = ty) (harr : (Cond.arrayClass ty).before args s = true) (hK : va_K D cls (tyl aC) s) (hC : c_B D aC ad X Z S A G ws H0 H locs) (hZn : ∀ q, H0.size ≤ q → Z q) {t0 : Nat} (ht : (tyl aC)[t0]? = some (aC t0, ty)) (hpr : s.vm.findClass ("[" ++ ty.toString) = some (aC t0)) (hdf : defaultValue ty = .int 0) {n : Int32} {N : Nat} (hn : ¬ n < 0) (hN : n.toNatClampNeg = N) (hby : N * componentBytes ty ≤ 536870912) (hcells : cells + 1 ≤ R.cells) (hslots : slots + N ≤ R.slots) (hdg : decode cc pc = .ok (.newarray atype, 2))
    (kk : ∀ (q : Nat) (H1 : Heap), q = H.size → c_B D aC ad X Z S A G ((q, .inl (aC t0, N, .inl (fun _ => 0))) :: ws) H0 H1 locs → W p l e R s m args below meth c H1 locs (cells + 1) (slots + N) Q (F0 m (pc + 2) ls (.ref q :: rest))) : W p l e R s m args below meth c H locs cells slots Q (F0 m pc ls (.int n :: rest)) := by
  subst hty
  refine va_newaK hexec hb harr rfl hdg rfl hn hN hby hcells hslots rfl fun H1 cA e1 z1 o1 hAr hNm => ?_
  have ec : cA = aC t0 := Option.some.inj (hNm.symm.trans hpr)
  subst ec
  rw [hdf] at e1
  refine kk H.size H1 rfl (c_push hC hZn z1 o1 ?_)
  show H1[H.size]? = some (vp_cell _ _)
  rw [e1]; rfl
theorem cr_newq (hexec : p.tables.exec = Jvm.exec) (hb : c.code = cc) {own C : String} {index : Nat} (hown : s.vm.findClass own = some m.cls) (hclink : (Cond.classLink own index C).before args s = true) (hover : va_AO C s) (hK : va_K D cls (tyl aC) s) (hC : c_B D aC ad X Z S A G ws H0 H locs) (hZn : ∀ q, H0.size ≤ q → Z q) {t0 : Nat} (ht : (tyl aC)[t0]? = some (aC t0, .object C)) {n : Int32} {N : Nat} (hn : ¬ n < 0) (hN : n.toNatClampNeg = N) (hby : N * 4 ≤ 536870912) (hcells : cells + 1 ≤ R.cells) (hslots : slots + N ≤ R.slots) (hdg : decode cc pc = .ok (.anewarray index, 3))
    (kk : ∀ (q : Nat) (H1 : Heap), q = H.size → c_B D aC ad X Z S A G ((q, .inl (aC t0, N, .inr (.inr (.inr (.inr (fun _ => none)))))) :: ws) H0 H1 locs → W p l e R s m args below meth c H1 locs (cells + 1) (slots + N) Q (F0 m (pc + 3) ls (.ref q :: rest))) : W p l e R s m args below meth c H locs cells slots Q (F0 m pc ls (.int n :: rest)) := by
  subst hN
  refine W.anew hexec hb hown hclink (va_AO.use hover) rfl hdg rfl hn hby hcells hslots fun cA kA comp f1 f2 f3 f4 => ?_
  obtain ⟨_, _, _, _, _, h9⟩ := (hK.2 t0 _ ht).2
  have ec : cA = aC t0 := Option.some.inj (f1.symm.trans h9)
  subst ec
  refine kk H.size _ rfl (c_push hC hZn (by simp) (fun q hq => by rw [Array.getElem?_push, if_neg (Nat.ne_of_lt hq)]) ?_)
  show (H.push _)[H.size]? = some (vp_cell _ _)
  rw [Array.getElem?_push_size, vp_cell_q, ← arrV_new]
  rfl
/-- a field of the cell at the list's head is written -/
theorem cr_put (hexec : p.tables.exec = Jvm.exec) (hb : c.code = cc) {own C : String} {T : u_T} {N ci index a : Nat} {tyf : Nat → FieldType} (hw : ∀ w ∈ wall, w.before args s = true) (hown : s.vm.findClass own = some m.cls) (hK : va_K D cls (tyl aC) s) {fs : List Value} (hC : c_B D aC ad X Z S A G ((a, .inr (ci, fs)) :: ws) H0 H locs) (k : Nat) (hc : cls[ci]? = some (C, T, N)) (hin : ∀ w ∈ u_ws C T N, w ∈ wall) (hty : ∀ k, k < N → parseFieldDescriptor (T k).2.2.1 = some (tyf k)) (hnm : ∀ a, a < N → ∀ b, b < N → a ≠ b → (T a).2.1 ≠ (T b).2.1) (hk : k < N) (hlink : Cond.fieldLink own index (T k).1 (T k).2.1 (T k).2.2.1 ∈ wall) (hfin : (T k).2.2.2 = false ∨ ((T k).2.2.2 = true ∧ meth.name = "<init>" ∧ (T k).1 = own)) {v : Value} (hn : narrow (tyf k) v = v) (hfit : fits (tyf k) v = true) (hl : k < fs.length) (hdg : decode cc pc = .ok (.putfield index, 3))
    (kk : ∀ (H1 : Heap) (locs1 : List Loc), c_B D aC ad X Z S A G ((a, .inr (ci, fs.set k v)) :: ws) H0 H1 locs1 → W p l e R s m args below meth c H1 locs1 cells slots Q (F0 m (pc + 3) ls rest)) : W p l e R s m args below meth c H locs cells slots Q (F0 m pc ls (v :: .ref a :: rest)) := by
  have hap := va_apart (own := own) hw hin tyf hty hnm hK hc
  obtain ⟨⟨hJ, hP, hV, hZ⟩, hL, hws, hnd⟩ := hC
  obtain ⟨⟨r, h1, cell, q1, q2, q3, q4⟩, hZa, hna⟩ := hws _ List.mem_cons_self
  have hr : r = (C, T, N) := Option.some.inj (h1.symm.trans hc)
  subst hr
  obtain ⟨hS, hfc, kC, hkC, hkind⟩ := hK.1 ci _ hc
  obtain ⟨cf, kf, fi, fd, hi, hsl⟩ := hS k hk
  have hlay := hw _ (hin _ (u_in_lay hk))
  have hst := (u_facts hfc hkC (u_lays hw hin hk) hi).1
  have fin : ∀ H' : Heap, H'[a]? = some (cell.setSlot fd.slot v) → H'.size = H.size → (∀ q, q ≠ a → H'[q]? = H[q]?) → W p l e R s m args below meth c H' (locs ++ [⟨a, fd.slot⟩]) cells slots Q (F0 m (pc + 3) ls rest) := by
    intro H' e1 e2 e3
    rw [hsl] at e1
    refine kk H' _ ⟨⟨hJ, fun f n hx => (hP f n hx).kept (e3 _ (fun q => hna ⟨f, n, hx, q⟩)), hV.put e2 e3 hZa, hZ⟩, hL, fun q hq => ?_, hnd⟩
    rcases List.mem_cons.mp hq with rfl | hq
    · exact ⟨⟨_, hc, t_OB.to (V := updV (vp_V fs) k v) ⟨_, e1, q2, q3, t_set q4 hap hk v⟩ (fun j _ => vp_updV_set hl v j)⟩, hZa, hna⟩
    · obtain ⟨g1, g2, g3⟩ := hws q (List.mem_cons_of_mem _ hq)
      refine ⟨g1.kept (e3 _ (fun z => ?_)), g2, g3⟩
      exact (List.nodup_cons.mp hnd).1 (List.mem_map.mpr ⟨q, hq, z⟩)
  rcases hfin with hfin | ⟨hfin, hin2, hdecl⟩
  · unfold u_lay at hlay
    rw [if_neg (by rw [hfin]; decide)] at hlay
    have h6 := u_store hfc hkC hkind hlay hi (hty k hk) hn hfit
    exact W.putK hexec hb (f := fd) ⟨hown, hw _ hlink, ⟨_, _, _, hi⟩, hst⟩ (by rw [q2]; exact h6) q1 q3 (by rw [hsl]; exact k2_hasslot (q4 k hk)) rfl rfl hdg fin
  · unfold u_lay at hlay
    rw [if_pos hfin] at hlay
    have hcf : m.cls = cf := by
      obtain ⟨_, _, c', _, _, _, -, -, hf', -, -, -, hown2, -⟩ := Cond.laysFinal_spec hlay
      have e1 : c' = cf := by have := hi.symm.trans hf'; simp at this; exact this.1.symm
      rw [hdecl] at hown2
      rw [← e1]; exact Option.some.inj (hown.symm.trans hown2)
    have h6 := u_fits hfc hkC hkind (Or.inr hlay) hi (hty k hk) hn hfit
    exact W.putFinK hexec hb hown (hw _ hlink) hi hst hcf hin2 (by rw [q2]; exact h6) q1 q3 (by rw [hsl]; exact k2_hasslot (q4 k hk)) rfl rfl hdg fin
end CROW
