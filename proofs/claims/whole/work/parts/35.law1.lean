/-! what the tables say at the start, in one fact -/
theorem law_K {args : Array Value} {s : State} (hts : ∀ w ∈ lw_tbl, w.before args s = true) : ∃ (D : va_G) (aC : Nat → ClassId), va_K D cls (tyl aC) s := by
  have hw : ∀ w ∈ wall, w.before args s = true := fun w h => hts w (List.mem_filter.mp h).1
  obtain ⟨c0, i0, k0⟩ := u_known hw us0 (hw _ it_0)
  obtain ⟨c1, i1, k1⟩ := u_known hw us1 (hw _ it_1)
  obtain ⟨c2, i2, k2⟩ := u_known hw us2 (hw _ it_2)
  obtain ⟨c3, i3, k3⟩ := u_known hw us3 (hw _ it_3)
  obtain ⟨c4, i4, k4⟩ := u_known hw us4 (hw _ it_4)
  obtain ⟨c5, i5, k5⟩ := u_known hw us5 (hw _ it_5)
  obtain ⟨c6, i6, k6⟩ := u_known hw us6 (hw _ it_6)
  obtain ⟨c7, i7, k7⟩ := u_known hw us7 (hw _ it_7)
  obtain ⟨a0, ka0, cp0, f0, h0, t0⟩ := Cond.arrayClass_spec (hw _ ac_int)
  obtain ⟨a1, ka1, cp1, f1, h1, t1⟩ := Cond.arrayClass_spec (hw _ ac_boolean)
  obtain ⟨cp2, a2, ka2, g2, -, h2, t2, f2⟩ := Cond.arrayOver_spec (hts _ ao_5)
  obtain ⟨cp3, a3, ka3, g3, -, h3, t3, f3⟩ := Cond.arrayOver_spec (hts _ ao_1)
  obtain ⟨cp4, a4, ka4, g4, -, h4, t4, f4⟩ := Cond.arrayOver_spec (hts _ ao_0)
  obtain ⟨cp5, a5, ka5, g5, -, h5, t5, f5⟩ := Cond.arrayOver_spec (hts _ ao_3)
  obtain ⟨cp6, a6, ka6, g6, -, h6, t6, f6⟩ := arrayOverA_spec (hts _ ao_A)
  refine ⟨(fun k => ([c0, c1, c2, c3, c4, c5, c6, c7] : List ClassId).getD k c0, fun k => ([i0, i1, i2, i3, i4, i5, i6, i7] : List (Nat → Nat)).getD k i0), fun k => ([a0, a1, a2, a3, a4, a5, a6] : List ClassId).getD k a0, ?_, ?_⟩
  · intro c q hq
    match c, hq with
    | 0, hq => cases hq; exact k0
    | 1, hq => cases hq; exact k1
    | 2, hq => cases hq; exact k2
    | 3, hq => cases hq; exact k3
    | 4, hq => cases hq; exact k4
    | 5, hq => cases hq; exact k5
    | 6, hq => cases hq; exact k6
    | 7, hq => cases hq; exact k7
    | c + 8, hq => simp [cls] at hq
  · intro k q hq
    match k, hq with
    | 0, hq => cases hq; exact ⟨fun N z => ⟨fun k h => (by cases h), ka0, h0, cp0, t0⟩, f0⟩
    | 1, hq => cases hq; exact ⟨fun N z => ⟨fun k h => (by cases h), ka1, h1, cp1, t1⟩, f1⟩
    | 2, hq => cases hq; exact ⟨fun N z => ⟨fun k h => (by cases h), ka2, h2, cp2, t2⟩, ka2, cp2, h2, t2, g2, f2⟩
    | 3, hq => cases hq; exact ⟨fun N z => ⟨fun k h => (by cases h), ka3, h3, cp3, t3⟩, ka3, cp3, h3, t3, g3, f3⟩
    | 4, hq => cases hq; exact ⟨fun N z => ⟨fun k h => (by cases h), ka4, h4, cp4, t4⟩, ka4, cp4, h4, t4, g4, f4⟩
    | 5, hq => cases hq; exact ⟨fun N z => ⟨fun k h => (by cases h), ka5, h5, cp5, t5⟩, ka5, cp5, h5, t5, g5, f5⟩
    | 6, hq => cases hq; exact ⟨fun N z => ⟨fun k h => (by cases h), ka6, h6, cp6, t6⟩, f6⟩
    | k + 7, hq => simp at hq
theorem law_E {args : Array Value} {s : State} (hts : ∀ w ∈ lw_tbl, w.before args s = true) : e_C s := ⟨hts _ ao_5, hts _ ao_1, hts _ ao_0, hts _ ao_3, hts _ ao_A, va_Nw.of rfl (hts _ mn_6_35), va_Nw.of rfl (hts _ mn_6_42), va_Nw.of rfl (hts _ mn_6_76)⟩
theorem e_C.warm {s U : State} (hW : s.WarmedH U.vm) (h : e_C s) : e_C U := ⟨va_AO.moved hW.alike h.1, va_AO.moved hW.alike h.2.1, va_AO.moved hW.alike h.2.2.1, va_AO.moved hW.alike h.2.2.2.1, aoa_moved hW.alike h.2.2.2.2.1, va_Nw.warmM hW h.2.2.2.2.2.1, va_Nw.warmM hW h.2.2.2.2.2.2.1, va_Nw.warmM hW h.2.2.2.2.2.2.2⟩
theorem e_C.call (U : State) (g : JFrame) (mk : MethodId) (a : Array Value) (h : e_C U) : e_C (U.calling g mk a) := ⟨va_AO.moved (u := U) (U := U.calling g mk a) (Vm.Alike.refl U.vm) h.1, va_AO.moved (u := U) (U := U.calling g mk a) (Vm.Alike.refl U.vm) h.2.1, va_AO.moved (u := U) (U := U.calling g mk a) (Vm.Alike.refl U.vm) h.2.2.1, va_AO.moved (u := U) (U := U.calling g mk a) (Vm.Alike.refl U.vm) h.2.2.2.1, aoa_moved (u := U) (U := U.calling g mk a) (Vm.Alike.refl U.vm) h.2.2.2.2.1, va_Nw.same rfl (rfl : U.vm = (U.calling g mk a).vm) h.2.2.2.2.2.1, va_Nw.same rfl (rfl : U.vm = (U.calling g mk a).vm) h.2.2.2.2.2.2.1, va_Nw.same rfl (rfl : U.vm = (U.calling g mk a).vm) h.2.2.2.2.2.2.2⟩
