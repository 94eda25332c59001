/-! System.arraycopy between two rows of one family -/
def cpA (A : sS) (f n0 n1 k : Nat) : sS := fun f1 m1 i => if f1 = f ∧ m1 = n1 ∧ i < k then A f n0 i else A f1 m1 i
theorem sr_copy {p : Program} {l : Launch} {e : Env} {R : Room} {s : State} {m : MethodId} {args : Array Value} {below : List Frame} {meth : Method} {c : Code} {H : Heap} {locs : List Loc} {cells slots : Nat} {Q : State → Prop} {cc : ByteArray} {nL : Nat} {own : String} {ret0 : Option FieldType} {pc index : Nat} {ls : Array Slot} {rest : List Value} {D : va_G} {aC : Nat → ClassId} {ad : Nat → Nat → Nat} {X : Nat → Nat → Prop} {Z : Nat → Prop} {S A : sS} {G : sG} {H0 : Heap} (C0 : s_C p s m args meth c cc nL own ret0 D aC) (hB : s_B D aC ad X Z S A G H0 H locs) {f n0 n1 : Nat} (hX0 : X f n0) (hX1 : X f n1) (hf : fk f = 1) (hf2 : fc f = 0) {k : Int32} (hk0 : 0 ≤ k.toInt) (hk1 : k.toInt ≤ fl f)
    (h1 : Cond.methodLink own index arraycopyName ∈ wall) (h2 : Cond.native arraycopyName ∈ wall) (h3 : Cond.static arraycopyName ∈ wall) (h4 : Cond.initialized "java/lang/System" ∈ wall) (hfr : 1 ≤ R.frames) (hlo : (rest.map fun v => v.category).sum + (nativeFrameWords "java/lang/System" "arraycopy" 5 + 11) ≤ R.locals) (hsz : ls.size = nL) (hdg : decode cc pc = .ok (.invokestatic index, 3))
    (kk : ∀ (H1 : Heap) (locs1 : List Loc), s_B D aC ad X Z S (cpA A f n0 n1 k.toNatClampNeg) G H0 H1 locs1 → W p l e R s m args below meth c H1 locs1 cells slots Q (F0 m (pc + 3) ls rest)) : W p l e R s m args below meth c H locs cells slots Q (F0 m pc ls (.int k :: .int 0 :: .ref (ad f n1) :: .int 0 :: .ref (ad f n0) :: rest)) := by
  obtain ⟨hx, hb, hml, hown, hw, hK, -, -⟩ := C0
  have hc0 := s_arr hB hX0 (by rw [hf]; decide)
  have hc1 := s_arr hB hX1 (by rw [hf]; decide)
  have h3a : ¬ fk f = 3 := by rw [hf]; decide
  have ev : ∀ n : Nat, s_av ad A G f n = fun j => Value.int (A f n j) := fun n => funext fun j => by unfold s_av; rw [if_neg h3a]
  rw [hf2, ev] at hc0 hc1
  have kc := cl_i hk0
  intro T hT X1
  obtain ⟨-, k0, hk0', cm0, hkk0⟩ := (hK.2 0 _ rfl).1 (fl f) (fun j => .int (A f n0 j))
  obtain ⟨vm', X', step⟩ := X1.arraycopy hx hown (hw _ h1) (hw _ h2) (hw _ h3) (hw _ h4) (src := ad f n0) (dst := ad f n1) (cs := arrV (aC 0) (fl f) (fun j => .int (A f n0 j))) (cd := arrV (aC 0) (fl f) (fun j => .int (A f n1 j))) (srcPos := 0) (destPos := 0) (n := k) (by rw [hT]; exact hc0) (by rw [hT]; exact hc1)
    (fun _ h => by cases h) (fun _ h => by cases h) (fun h => by cases h) (fun h => by cases h) hk0' hk0' hkk0 hkk0 (by simp [refKind]) (by decide) (by decide) (fun q => by have a := lt_i q; have b : (0 : Int32).toInt = 0 := rfl; omega)
    (by rw [arrV_size]; have b : (0 : Int32).toInt = 0 := rfl; omega)
    (by rw [arrV_size]; have b : (0 : Int32).toInt = 0 := rfl; omega)
    (fun vm₁ _ i hi => by
      have e : (arrV (aC 0) (fl f) (fun j => Value.int (A f n0 j))).slots.getD ((0 : Int32).toNatClampNeg + i) .null = .int (A f n0 ((0 : Int32).toNatClampNeg + i)) := by
        rw [Array.getD_eq_getD_getElem?, arrV_read _ _ (by show 0 + i < fl f; omega)]
        rfl
      refine ⟨?_, ?_⟩
      · rw [e]; rfl
      · rw [e]; exact trivial)
    (g := F0 m pc ls (.int k :: .int 0 :: .ref (ad f n1) :: .int 0 :: .ref (ad f n0) :: rest)) rfl (by rw [hml]; exact hsz) (rest := rest) rfl (by rw [hb]; exact hdg) hfr (by show 2 * 0 + _ + _ ≤ _; omega)
  have e1 : copied (arrV (aC 0) (fl f) (fun j => .int (A f n0 j))) (arrV (aC 0) (fl f) (fun j => .int (A f n1 j))) 0 0 k = arrV (aC 0) (fl f) (fun j => .int (va_cpy (A f n0) (A f n1) (0 : Int32).toNatClampNeg (0 : Int32).toNatClampNeg k.toNatClampNeg j)) := va_copied (fun z => .int z) (aC 0) (aC 0) (A f n0) (A f n1) (by show 0 + _ ≤ _; omega)
  rw [e1] at X' step
  generalize hN : arrV (aC 0) (fl f) (fun j => Value.int (va_cpy (A f n0) (A f n1) (0 : Int32).toNatClampNeg (0 : Int32).toNatClampNeg k.toNatClampNeg j)) = N at X' step
  have hl : ad f n1 < H.size := (Array.getElem?_eq_some_iff.mp hc1).1
  have hheap : ((T.setVm vm').setCell (ad f n1) N).heap = H.setIfInBounds (ad f n1) N := by rw [← hT]; rfl
  have oq : ∀ q : Nat, q ≠ ad f n1 → (H.setIfInBounds (ad f n1) N)[q]? = H[q]? := fun q hq => by simp [Array.getElem?_setIfInBounds, Ne.symm hq]
  have on : (H.setIfInBounds (ad f n1) N)[ad f n1]? = some N := by simp [Array.getElem?_setIfInBounds, hl]
  obtain ⟨hJ, hP, hS, hZ⟩ := hB
  have hP1 : s_P D aC ad X S (cpA A f n0 n1 k.toNatClampNeg) G (H.setIfInBounds (ad f n1) N) := by
    intro f1 m1 hX9
    by_cases hfn : f1 = f ∧ m1 = n1
    · obtain ⟨rfl, rfl⟩ := hfn
      unfold s_at
      rw [if_neg (by rw [hf]; decide), on, ← hN, hf2]
      refine congrArg some (congrArg (arrV _ _) (funext fun j => ?_))
      unfold s_av
      rw [if_neg h3a]
      refine congrArg Value.int ?_
      show (if 0 ≤ j ∧ j < 0 + k.toNatClampNeg then A f1 n0 (0 + (j - 0)) else A f1 m1 j) = cpA A f1 n0 m1 k.toNatClampNeg f1 m1 j
      unfold cpA
      by_cases hj : j < k.toNatClampNeg
      · rw [if_pos ⟨Nat.zero_le _, by omega⟩, if_pos ⟨rfl, rfl, hj⟩]
        congr 1; omega
      · rw [if_neg (by omega), if_neg (fun q => hj q.2.2)]
    · have hne : ad f1 m1 ≠ ad f n1 := fun q => hfn (hJ _ _ _ _ hX9 hX1 q)
      have h1 := (hP f1 m1 hX9).kept (oq _ hne)
      unfold s_at at h1 ⊢
      split
      · rename_i hk1
        rw [if_pos hk1] at h1
        exact h1
      · rename_i hk1
        rw [if_neg hk1] at h1
        rw [h1]
        refine congrArg some (congrArg (arrV _ _) (funext fun j => ?_))
        unfold s_av cpA
        rw [if_neg (fun q : f1 = f ∧ m1 = n1 ∧ j < k.toNatClampNeg => hfn ⟨q.1, q.2.1⟩)]
  obtain ⟨t, a1, b1⟩ := kk _ _ ⟨hJ, hP1, ⟨by simp; exact hS.1, fun q g1 g2 => by
      rw [oq q (fun e => g2 (by rw [e]; exact hZ f n1 hX1))]
      exact hS.2.1 q g1 g2, fun q hq => by
      rcases List.mem_append.mp hq with h | h
      · exact hS.2.2 q h
      · obtain ⟨z, -, hz⟩ := List.mem_map.mp h
        rw [← hz]
        exact hZ f n1 hX1⟩, hZ⟩ _ hheap X'
  exact ⟨t, step t a1, b1⟩
