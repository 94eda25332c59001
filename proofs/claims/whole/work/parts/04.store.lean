/-! the families of cells: kind (0 object, 1 ints, 2 booleans, 3 references, 9 none), class or array class, fields or length, family of the elements; fr: the family that a field's reference leads to (same number), 0 for a number -/
def fk (f : Nat) : Nat := ([0, 3, 3, 3, 3, 0, 0, 1, 1, 2, 3, 1, 0, 0, 0, 0, 1, 1, 9, 9, 0, 9, 2, 1, 1, 1, 1, 9, 9, 9, 9, 2, 2, 1, 1, 1, 1, 1, 1, 1, 2, 9, 1, 1, 1, 1, 2, 1, 9, 9, 9, 9, 9, 9, 9, 9, 1, 2, 9, 1] : List Nat).getD f 9
def fc (f : Nat) : Nat := ([6, 2, 3, 4, 5, 4, 2, 0, 0, 1, 6, 0, 5, 1, 3, 0, 0, 0, 0, 0, 7, 0, 1, 0, 0, 0, 0, 0, 0, 0, 0, 1, 1, 0, 0, 0, 0, 0, 0, 0, 1, 0, 0, 0, 0, 0, 1, 0, 0, 0, 0, 0, 0, 0, 0, 0, 0, 1, 0, 0] : List Nat).getD f 0
def fl (f : Nat) : Nat := ([15, 16, 32, 64, 60, 7, 3, 64, 64, 2, 2, 1800, 4, 3, 7, 6, 6, 6, 0, 0, 39, 0, 16, 16, 16, 16, 16, 0, 0, 0, 0, 32, 32, 32, 32, 64, 64, 384, 384, 64, 64, 0, 60, 60, 60, 60, 60, 60, 0, 0, 0, 0, 0, 0, 0, 0, 1800, 2, 0, 64] : List Nat).getD f 0
def fe (f : Nat) : Nat := ([0, 12, 13, 15, 14, 0, 0, 0, 0, 0, 11, 0, 0, 0, 0, 0, 0, 0, 0, 0, 0, 0, 0, 0, 0, 0, 0, 0, 0, 0, 0, 0, 0, 0, 0, 0, 0, 0, 0, 0, 0, 0, 0, 0, 0, 0, 0, 0, 0, 0, 0, 0, 0, 0, 0, 0, 0, 0, 0, 0] : List Nat).getD f 0
def fr (f k : Nat) : Nat := (([[1, 2, 3, 4, 5, 6, 7, 8], [], [], [], [], [], [9, 0, 10], [], [], [], [], [], [], [], [], [16, 17], [], [], [], [], [0, 22, 23, 24, 25, 26, 0, 0, 0, 0, 31, 32, 33, 34, 35, 36, 37, 38, 39, 40, 0, 42, 43, 44, 45, 46, 47, 0, 0, 0, 0, 0, 0, 0, 0, 56, 57, 0, 59], [], [], [], [], [], [], [], [], [], [], [], [], [], [], [], [], [], [], [], [], [], [], [], [], [], [], [], [], [], [], [], [], [], [], [], [], [], [], []] : List (List Nat)).getD f []).getD k 0

abbrev sS : Type := Nat → Nat → Nat → Int32
abbrev sG : Type := Nat → Nat → Option Nat
def up3 (S : sS) (f n k : Nat) (v : Int32) : sS := fun f1 n1 k1 => if f1 = f ∧ k1 = k ∧ n1 = n then v else S f1 n1 k1
def up2 (G : sG) (f i : Nat) (v : Option Nat) : sG := fun f1 i1 => if f1 = f ∧ i1 = i then v else G f1 i1
theorem up3_s {S : sS} {f n k : Nat} {v : Int32} : up3 S f n k v f n k = v := if_pos ⟨rfl, rfl, rfl⟩
theorem up3_n {S : sS} {f n k f1 n1 k1 : Nat} {v : Int32} (h : ¬ (f1 = f ∧ k1 = k ∧ n1 = n)) : up3 S f n k v f1 n1 k1 = S f1 n1 k1 := if_neg h
theorem up2_s {G : sG} {f i : Nat} {v : Option Nat} : up2 G f i v f i = v := if_pos ⟨rfl, rfl⟩
theorem up2_n {G : sG} {f i f1 i1 : Nat} {v : Option Nat} (h : ¬ (f1 = f ∧ i1 = i)) : up2 G f i v f1 i1 = G f1 i1 := if_neg h
abbrev tyl (aC : Nat → ClassId) : List (ClassId × FieldType) := [(aC 0, .int), (aC 1, .boolean), (aC 2, .object R5), (aC 3, .object R1), (aC 4, .object R0), (aC 5, .object R3), (aC 6, .array .int)]
def s_fv (ad : Nat → Nat → Nat) (S : sS) (f n k : Nat) : Value := if fr f k = 0 then .int (S f n k) else .ref (ad (fr f k) n)
def s_av (ad : Nat → Nat → Nat) (A : sS) (G : sG) (f n i : Nat) : Value := if fk f = 3 then va_rf ((G f i).map (ad (fe f))) else .int (A f n i)
def s_at (D : va_G) (aC : Nat → ClassId) (ad : Nat → Nat → Nat) (S A : sS) (G : sG) (f n : Nat) (H : Heap) : Prop :=
  if fk f = 0 then t_OB (ad f n) (D.1 (fc f)) (fl f) (D.2 (fc f)) H (s_fv ad S f n) else H[ad f n]? = some (arrV (aC (fc f)) (fl f) (s_av ad A G f n))
def s_P (D : va_G) (aC : Nat → ClassId) (ad : Nat → Nat → Nat) (X : Nat → Nat → Prop) (S A : sS) (G : sG) (H : Heap) : Prop := ∀ f n, X f n → s_at D aC ad S A G f n H
def s_J (ad : Nat → Nat → Nat) (X : Nat → Nat → Prop) : Prop := ∀ f n f1 n1, X f n → X f1 n1 → ad f n = ad f1 n1 → f = f1 ∧ n = n1
def s_N (ad : Nat → Nat → Nat) (X : Nat → Nat → Prop) : Nat → Prop := fun q => ∃ f n, X f n ∧ ad f n = q
/-- the store stands in the heap H, and since H0 nothing outside of it was written -/
def s_B (D : va_G) (aC : Nat → ClassId) (ad : Nat → Nat → Nat) (X : Nat → Nat → Prop) (Z : Nat → Prop) (S A : sS) (G : sG) (H0 H : Heap) (locs : List Loc) : Prop := s_J ad X ∧ s_P D aC ad X S A G H ∧ va_S Z H0 H locs ∧ ∀ f n, X f n → Z (ad f n)
theorem s_at.kept {D : va_G} {aC : Nat → ClassId} {ad : Nat → Nat → Nat} {S A : sS} {G : sG} {f n : Nat} {H H1 : Heap} (h : s_at D aC ad S A G f n H) (hq : H1[ad f n]? = H[ad f n]?) : s_at D aC ad S A G f n H1 := by
  unfold s_at at h ⊢
  split
  · rename_i hk
    rw [if_pos hk] at h
    exact h.kept hq
  · rename_i hk
    rw [if_neg hk] at h
    rw [hq]; exact h
theorem s_at.lt {D : va_G} {aC : Nat → ClassId} {ad : Nat → Nat → Nat} {S A : sS} {G : sG} {f n : Nat} {H : Heap} (h : s_at D aC ad S A G f n H) : ad f n < H.size := by
  unfold s_at at h
  split at h
  · obtain ⟨cell, h2, -⟩ := h
    exact (Array.getElem?_eq_some_iff.mp h2).1
  · exact (Array.getElem?_eq_some_iff.mp h).1
section SROW
variable {p : Program} {l : Launch} {e : Env} {R : Room} {s : State} {m : MethodId} {args : Array Value} {below : List Frame} {meth : Method} {c : Code} {H : Heap} {locs : List Loc} {cells slots : Nat} {Q : State → Prop}
variable {cc : ByteArray} {pc : Nat} {ls : Array Slot} {rest : List Value} {D : va_G} {aC : Nat → ClassId} {ad : Nat → Nat → Nat} {X : Nat → Nat → Prop} {Z : Nat → Prop} {S A : sS} {G : sG} {H0 : Heap}
theorem sr_get (hexec : p.tables.exec = Jvm.exec) (hb : c.code = cc) {own C : String} {T : u_T} {N index f n : Nat} (hw : ∀ w ∈ wall, w.before args s = true) (hown : s.vm.findClass own = some m.cls) (hK : va_K D cls (tyl aC) s) (hB : s_B D aC ad X Z S A G H0 H locs) (k : Nat) (hX : X f n) (hf : fk f = 0 ∧ cls[fc f]? = some (C, T, N) ∧ fl f = N) (hin : ∀ w ∈ u_ws C T N, w ∈ wall) (hk : k < N) (hlink : Cond.fieldLink own index (T k).1 (T k).2.1 (T k).2.2.1 ∈ wall) {v : Value} (hv : s_fv ad S f n k = v) (hdg : decode cc pc = .ok (.getfield index, 3))
    (kk : W p l e R s m args below meth c H locs cells slots Q (F0 m (pc + 3) ls (v :: rest))) : W p l e R s m args below meth c H locs cells slots Q (F0 m pc ls (.ref (ad f n) :: rest)) := by
  obtain ⟨hf0, hc, hN⟩ := hf
  have h := hB.2.1 f n hX
  unfold s_at at h
  rw [if_pos hf0, hN] at h
  obtain ⟨cell, q1, q2, q3, q4⟩ := h
  obtain ⟨hS, hfc, kC, hkC, hkind⟩ := hK.1 (fc f) _ hc
  obtain ⟨cf, kf, fi, fd, hi, hsl⟩ := hS k hk
  refine W.getf hexec hb hown (hw _ hlink) hi (u_facts hfc hkC (u_lays hw hin hk) hi).1 q1 (by rw [q3]; exact fun h => by cases h) (v := v) ?_ rfl rfl hdg kk
  rw [hsl, q4 k hk, hv]
theorem sr_put (hexec : p.tables.exec = Jvm.exec) (hb : c.code = cc) {own C : String} {T : u_T} {N index f n : Nat} {tyf : Nat → FieldType} (hw : ∀ w ∈ wall, w.before args s = true) (hown : s.vm.findClass own = some m.cls) (hK : va_K D cls (tyl aC) s) (hB : s_B D aC ad X Z S A G H0 H locs) (k : Nat) (hX : X f n) (hf : fk f = 0 ∧ cls[fc f]? = some (C, T, N) ∧ fl f = N) (hin : ∀ w ∈ u_ws C T N, w ∈ wall) (hty : ∀ k, k < N → parseFieldDescriptor (T k).2.2.1 = some (tyf k)) (hnm : ∀ a, a < N → ∀ b, b < N → a ≠ b → (T a).2.1 ≠ (T b).2.1) (hk : k < N) (hlink : Cond.fieldLink own index (T k).1 (T k).2.1 (T k).2.2.1 ∈ wall) (hfin : (T k).2.2.2 = false) (hr : fr f k = 0) {v : Int32} (hn : narrow (tyf k) (.int v) = .int v) (hfit : fits (tyf k) (.int v) = true) (hdg : decode cc pc = .ok (.putfield index, 3))
    (kk : ∀ (H1 : Heap) (locs1 : List Loc), s_B D aC ad X Z (up3 S f n k v) A G H0 H1 locs1 → W p l e R s m args below meth c H1 locs1 cells slots Q (F0 m (pc + 3) ls rest)) : W p l e R s m args below meth c H locs cells slots Q (F0 m pc ls (.int v :: .ref (ad f n) :: rest)) := by
  obtain ⟨hf0, hc, hN⟩ := hf
  obtain ⟨hJ, hP, hS0, hZ⟩ := hB
  have hap := va_apart (own := own) hw hin tyf hty hnm hK hc
  have h := hP f n hX
  unfold s_at at h
  rw [if_pos hf0, hN] at h
  obtain ⟨cell, q1, q2, q3, q4⟩ := h
  obtain ⟨hS, hfc, kC, hkC, hkind⟩ := hK.1 (fc f) _ hc
  obtain ⟨cf, kf, fi, fd, hi, hsl⟩ := hS k hk
  have hlay := hw _ (hin _ (u_in_lay hk))
  unfold u_lay at hlay
  rw [if_neg (by rw [hfin]; decide)] at hlay
  have hst := (u_facts hfc hkC (u_lays hw hin hk) hi).1
  have h6 := u_store hfc hkC hkind hlay hi (hty k hk) hn hfit
  refine W.putK hexec hb (f := fd) ⟨hown, hw _ hlink, ⟨_, _, _, hi⟩, hst⟩ (by rw [q2]; exact h6) q1 q3 (by rw [hsl]; exact k2_hasslot (q4 k hk)) rfl rfl hdg fun H' e1 e2 e3 => ?_
  rw [hsl] at e1 ⊢
  refine kk H' _ ⟨hJ, fun f1 n1 hX1 => ?_, hS0.put e2 e3 (hZ f n hX), hZ⟩
  by_cases hfn : f1 = f ∧ n1 = n
  · obtain ⟨rfl, rfl⟩ := hfn
    unfold s_at
    rw [if_pos hf0, hN]
    refine t_OB.to (V := updV (s_fv ad S f1 n1) k (.int v)) ⟨_, e1, q2, q3, t_set q4 hap hk (.int v)⟩ (fun j _ => ?_)
    unfold updV s_fv
    by_cases hj : j = k
    · subst hj
      rw [if_pos rfl, if_pos hr, up3_s]
    · rw [if_neg hj, up3_n (fun q => hj q.2.1)]
  · have hne : ad f1 n1 ≠ ad f n := fun q => hfn (hJ _ _ _ _ hX1 hX q)
    have h1 := (hP f1 n1 hX1).kept (e3 _ hne)
    unfold s_at at h1 ⊢
    split
    · rename_i hk1
      rw [if_pos hk1] at h1
      refine h1.to (fun j _ => ?_)
      unfold s_fv
      rw [up3_n (fun q => hfn ⟨q.1, q.2.2⟩)]
    · rename_i hk1
      rw [if_neg hk1] at h1
      exact h1
/-- a cell of numbers, read -/
theorem s_arr (hB : s_B D aC ad X Z S A G H0 H locs) {f n : Nat} (hX : X f n) (h0 : fk f ≠ 0) : H[ad f n]? = some (arrV (aC (fc f)) (fl f) (s_av ad A G f n)) := by
  have h := hB.2.1 f n hX
  unfold s_at at h
  rw [if_neg h0] at h
  exact h
theorem sr_iald (hexec : p.tables.exec = Jvm.exec) (hb : c.code = cc) (hK : va_K D cls (tyl aC) s) (hB : s_B D aC ad X Z S A G H0 H locs) {f n : Nat} (hX : X f n) (hf : fk f = 1) (hf2 : fc f = 0) {i : Int32} (hi : vp_in i (fl f)) (hdg : decode cc pc = .ok (.iaload, 1)) {v : Int32} (hv : A f n i.toNatClampNeg = v)
    (kk : W p l e R s m args below meth c H locs cells slots Q (F0 m (pc + 1) ls (.int v :: rest))) : W p l e R s m args below meth c H locs cells slots Q (F0 m pc ls (.int i :: .ref (ad f n) :: rest)) := by
  subst hv
  have hlt : i.toNatClampNeg < fl f := Nat.not_le.mp fun q => hi (Or.inr q)
  have hc := s_arr hB hX (by rw [hf]; decide)
  rw [hf2] at hc
  refine W.iald (v := .int (A f n i.toNatClampNeg)) hexec hb hc ((hK.2 0 _ rfl).1 _ _) (fun q => by cases q) (by rw [arrV_size]; exact hi) ?_ rfl rfl hdg kk
  rw [arrV_read _ _ hlt]
  unfold s_av
  rw [if_neg (by rw [hf]; decide)]
theorem sr_zald (hexec : p.tables.exec = Jvm.exec) (hb : c.code = cc) (hK : va_K D cls (tyl aC) s) (hB : s_B D aC ad X Z S A G H0 H locs) {f n : Nat} (hX : X f n) (hf : fk f = 2) (hf2 : fc f = 1) {i : Int32} (hi : vp_in i (fl f)) (hdg : decode cc pc = .ok (.baload, 1)) {v : Int32} (hv : A f n i.toNatClampNeg = v)
    (kk : W p l e R s m args below meth c H locs cells slots Q (F0 m (pc + 1) ls (.int v :: rest))) : W p l e R s m args below meth c H locs cells slots Q (F0 m pc ls (.int i :: .ref (ad f n) :: rest)) := by
  subst hv
  have hlt : i.toNatClampNeg < fl f := Nat.not_le.mp fun q => hi (Or.inr q)
  have hc := s_arr hB hX (by rw [hf]; decide)
  rw [hf2] at hc
  refine W.zald (v := .int (A f n i.toNatClampNeg)) hexec hb hc ((hK.2 1 _ rfl).1 _ _) (fun q => by cases q) (by rw [arrV_size]; exact hi) ?_ rfl rfl hdg kk
  rw [arrV_read _ _ hlt]
  unfold s_av
  rw [if_neg (by rw [hf]; decide)]
theorem sr_aald (hexec : p.tables.exec = Jvm.exec) (hb : c.code = cc) (hK : va_K D cls (tyl aC) s) (hB : s_B D aC ad X Z S A G H0 H locs) {f n : Nat} (hX : X f n) (hf : fk f = 3) {ty : FieldType} (hf2 : (tyl aC)[fc f]? = some (aC (fc f), ty)) (hrf : refKind ty = true) {i : Int32} (hi : vp_in i (fl f)) (hdg : decode cc pc = .ok (.aaload, 1)) {v : Option Nat} (hv : G f i.toNatClampNeg = v)
    (kk : W p l e R s m args below meth c H locs cells slots Q (F0 m (pc + 1) ls (va_rf (v.map (ad (fe f))) :: rest))) : W p l e R s m args below meth c H locs cells slots Q (F0 m pc ls (.int i :: .ref (ad f n) :: rest)) := by
  subst hv
  have hlt : i.toNatClampNeg < fl f := Nat.not_le.mp fun q => hi (Or.inr q)
  have hc := s_arr hB hX (by rw [hf]; decide)
  refine W.aald (v := va_rf ((G f i.toNatClampNeg).map (ad (fe f)))) (ty := ty) hexec hb hc ((hK.2 (fc f) _ hf2).1 _ _) hrf (fun q => by cases q) (by rw [arrV_size]; exact hi) ?_ rfl rfl hdg kk
  rw [arrV_read _ _ hlt]
  unfold s_av
  rw [if_pos hf]
theorem s_iput (hJ : s_J ad X) (hP : s_P D aC ad X S A G H) {f n k : Nat} {x : Int32} (hX : X f n) (hf : fk f = 1 ∨ fk f = 2) {H1 : Heap} (e1 : H1[ad f n]? = some ((arrV (aC (fc f)) (fl f) (s_av ad A G f n)).setSlot k (.int x))) (e3 : ∀ q : Nat, q ≠ ad f n → H1[q]? = H[q]?) : s_P D aC ad X S (up3 A f n k x) G H1 := by
  intro f1 n1 hX1
  by_cases hfn : f1 = f ∧ n1 = n
  · obtain ⟨rfl, rfl⟩ := hfn
    unfold s_at
    rw [if_neg (by rcases hf with q | q <;> rw [q] <;> decide), e1, arrV_store]
    refine congrArg some (congrArg (arrV _ _) (funext fun j => ?_))
    have h3 : ¬ fk f1 = 3 := by rcases hf with q | q <;> rw [q] <;> decide
    show (if j = k then Value.int x else s_av ad A G f1 n1 j) = s_av ad (up3 A f1 n1 k x) G f1 n1 j
    by_cases hj : j = k
    · subst hj
      rw [if_pos rfl]
      unfold s_av
      rw [if_neg h3, up3_s]
    · rw [if_neg hj]
      unfold s_av
      rw [if_neg h3, if_neg h3, up3_n (fun q => hj q.2.1)]
  · have hne : ad f1 n1 ≠ ad f n := fun q => hfn (hJ _ _ _ _ hX1 hX q)
    have h1 := (hP f1 n1 hX1).kept (e3 _ hne)
    unfold s_at at h1 ⊢
    split
    · rename_i hk1
      rw [if_pos hk1] at h1
      exact h1
    · rename_i hk1
      rw [if_neg hk1] at h1
      rw [h1]
      refine congrArg some (congrArg (arrV _ _) (funext fun j => ?_))
      unfold s_av
      rw [up3_n (fun q => hfn ⟨q.1, q.2.2⟩)]
theorem sr_iast (hexec : p.tables.exec = Jvm.exec) (hb : c.code = cc) (hK : va_K D cls (tyl aC) s) (hB : s_B D aC ad X Z S A G H0 H locs) {f n : Nat} (hX : X f n) (hf : fk f = 1) (hf2 : fc f = 0) {i x : Int32} (hi : vp_in i (fl f)) (hdg : decode cc pc = .ok (.iastore, 1))
    (kk : ∀ (H1 : Heap) (locs1 : List Loc), s_B D aC ad X Z S (up3 A f n i.toNatClampNeg x) G H0 H1 locs1 → W p l e R s m args below meth c H1 locs1 cells slots Q (F0 m (pc + 1) ls rest)) : W p l e R s m args below meth c H locs cells slots Q (F0 m pc ls (.int x :: .int i :: .ref (ad f n) :: rest)) := by
  have hc := s_arr hB hX (by rw [hf]; decide)
  have hc' := hc
  rw [hf2] at hc'
  refine W.iast hexec hb hc' ((hK.2 0 _ rfl).1 _ _) (fun q => by cases q) (by rw [arrV_size]; exact hi) rfl rfl hdg fun H1 e1 z oq => ?_
  exact kk H1 _ ⟨hB.1, s_iput hB.1 hB.2.1 hX (Or.inl hf) (by rw [hf2]; exact e1) oq, hB.2.2.1.put z oq (hB.2.2.2 f n hX), hB.2.2.2⟩
theorem sr_zast (hexec : p.tables.exec = Jvm.exec) (hb : c.code = cc) (hK : va_K D cls (tyl aC) s) (hB : s_B D aC ad X Z S A G H0 H locs) {f n : Nat} (hX : X f n) (hf : fk f = 2) (hf2 : fc f = 1) {i x : Int32} (hx : narrow .boolean (.int x) = .int x) (hi : vp_in i (fl f)) (hdg : decode cc pc = .ok (.bastore, 1))
    (kk : ∀ (H1 : Heap) (locs1 : List Loc), s_B D aC ad X Z S (up3 A f n i.toNatClampNeg x) G H0 H1 locs1 → W p l e R s m args below meth c H1 locs1 cells slots Q (F0 m (pc + 1) ls rest)) : W p l e R s m args below meth c H locs cells slots Q (F0 m pc ls (.int x :: .int i :: .ref (ad f n) :: rest)) := by
  have hc := s_arr hB hX (by rw [hf]; decide)
  have hc' := hc
  rw [hf2] at hc'
  refine W.zast hexec hb hc' ((hK.2 1 _ rfl).1 _ _) (fun q => by cases q) (by rw [arrV_size]; exact hi) rfl rfl hdg fun H1 e1 z oq => ?_
  rw [hx] at e1
  exact kk H1 _ ⟨hB.1, s_iput hB.1 hB.2.1 hX (Or.inr hf) (by rw [hf2]; exact e1) oq, hB.2.2.1.put z oq (hB.2.2.2 f n hX), hB.2.2.2⟩
/-- an array's length -/
theorem sr_alen (hexec : p.tables.exec = Jvm.exec) (hb : c.code = cc) (hK : va_K D cls (tyl aC) s) (hB : s_B D aC ad X Z S A G H0 H locs) {f n : Nat} (hX : X f n) (hf : fk f ≠ 0) {ty : FieldType} (hf2 : (tyl aC)[fc f]? = some (aC (fc f), ty)) {v : Int32} (hv : Int32.ofNat (fl f) = v) (hdg : decode cc pc = .ok (.arraylength, 1))
    (kk : W p l e R s m args below meth c H locs cells slots Q (F0 m (pc + 1) ls (.int v :: rest))) : W p l e R s m args below meth c H locs cells slots Q (F0 m pc ls (.ref (ad f n) :: rest)) := by
  have hc := s_arr hB hX hf
  exact W.alen hexec hb hc ((hK.2 (fc f) _ hf2).1 _ _) (by rw [arrV_size]; exact hv) rfl rfl hdg kk
end SROW
/-! contracts: what a method is given, and how it ends -/
def s_Pc (av : List Value) (D : va_G) (aC : Nat → ClassId) (ad : Nat → Nat → Nat) (X : Nat → Nat → Prop) (S A : sS) (G : sG) : Array Value → State → Prop := va_Pc av (fun U => s_J ad X ∧ s_P D aC ad X S A G U.heap ∧ va_K D cls (tyl aC) U)
theorem s_Pc.blind {av : List Value} {D : va_G} {aC : Nat → ClassId} {ad : Nat → Nat → Nat} {X : Nat → Nat → Prop} {S A : sS} {G : sG} : FrameBlind (s_Pc av D aC ad X S A G) := fun a U g mk q => by
  obtain ⟨q0, qJ, qP, qK⟩ := q
  exact ⟨q0, qJ, qP, va_K.moved (u := U) (U := U.calling g mk a) (Vm.Alike.refl U.vm) qK⟩
def s_Qi (D : va_G) (aC : Nat → ClassId) (ad : Nat → Nat → Nat) (X : Nat → Nat → Prop) (G : sG) (o : Int32 × sS × sS) : Array Value → State → Outcome → State → Prop := fun _ st oc t => oc = .returned (some (.int o.1)) ∧ s_P D aC ad X o.2.1 o.2.2 G t.heap ∧ va_F (s_N ad X) st t
def s_Qv (D : va_G) (aC : Nat → ClassId) (ad : Nat → Nat → Nat) (X : Nat → Nat → Prop) (G : sG) (o : sS × sS) : Array Value → State → Outcome → State → Prop := fun _ st oc t => oc = .returned none ∧ s_P D aC ad X o.1 o.2 G t.heap ∧ va_F (s_N ad X) st t
abbrev s_Qp (v : Int32) : Array Value → State → Outcome → State → Prop := vp_Si (fun r => r = v)
/-- a method's standing facts -/
def s_C (p : Program) (s : State) (m : MethodId) (args : Array Value) (meth : Method) (c : Code) (cc : ByteArray) (nL : Nat) (own : String) (ret : Option FieldType) (D : va_G) (aC : Nat → ClassId) : Prop := p.tables.exec = Jvm.exec ∧ c.code = cc ∧ c.maxLocals = nL ∧ s.vm.findClass own = some m.cls ∧ (∀ w ∈ wall, w.before args s = true) ∧ va_K D cls (tyl aC) s ∧ meth.sig.returnType = ret ∧ meth.locks = false
section SCALL
variable {p : Program} {l : Launch} {e : Env} {R : Room} {s : State} {m : MethodId} {args : Array Value} {below : List Frame} {meth : Method} {c : Code} {H : Heap} {locs : List Loc} {cells slots : Nat} {Q : State → Prop}
variable {cc : ByteArray} {nL : Nat} {own : String} {ret0 : Option FieldType} {pc : Nat} {ls : Array Slot} {rest st0 As : List Value} {D : va_G} {aC : Nat → ClassId} {ad : Nat → Nat → Nat} {X : Nat → Nat → Prop} {Z : Nat → Prop} {S A : sS} {G : sG} {H0 : Heap}
variable {y : MethodName} {bytes : ByteArray} {maxL index : Nat} {ret : Option FieldType} {rm : Room}
/-- the words of a call, out of the wall -/
theorem s_goodV {Ts : List Cond} (hT : ∀ w ∈ wall, w ∈ Ts) {C : String} (h1 : Cond.methodLink own index y ∈ wall) (h2 : Cond.instanceMethod y ∈ wall) (h3 : Cond.selects C y y ∈ wall) (h4 : Cond.initialized C ∈ wall) (h5 : Cond.code y bytes maxL ret ∈ wall) : GoodIn Ts (wsV own index C y (.code y bytes maxL ret :: wall)) := fun w hw => by
  have hm : w ∈ wall := by
    unfold wsV at hw
    rcases List.mem_append.mp hw with h | h
    · rcases List.mem_cons.mp h with rfl | h
      · exact h1
      · rcases List.mem_cons.mp h with rfl | h
        · exact h2
        · rcases List.mem_cons.mp h with rfl | h
          · exact h3
          · rcases List.mem_cons.mp h with rfl | h
            · exact h4
            · cases h
    · rcases List.mem_cons.mp h with rfl | h
      · exact h5
      · exact h
  exact ⟨hT w hm, wall_good w hm⟩
theorem s_goodS {Ts : List Cond} (hT : ∀ w ∈ wall, w ∈ Ts) (h1 : Cond.methodLink own index y ∈ wall) (h2 : Cond.static y ∈ wall) (h4 : Cond.initialized own ∈ wall) (h5 : Cond.code y bytes maxL ret ∈ wall) : GoodIn Ts (wsS own index y (.code y bytes maxL ret :: wall)) := fun w hw => by
  have hm : w ∈ wall := by
    unfold wsS at hw
    rcases List.mem_append.mp hw with h | h
    · rcases List.mem_cons.mp h with rfl | h
      · exact h1
      · rcases List.mem_cons.mp h with rfl | h
        · exact h2
        · rcases List.mem_cons.mp h with rfl | h
          · exact h4
          · cases h
    · rcases List.mem_cons.mp h with rfl | h
      · exact h5
      · exact h
  exact ⟨hT w hm, wall_good w hm⟩
theorem s_recv (hK : va_K D cls (tyl aC) s) (hB : s_B D aC ad X Z S A G H0 H locs) {f n : Nat} (hX : X f n) {C : String} {T : u_T} {N : Nat} (hf : fk f = 0 ∧ cls[fc f]? = some (C, T, N) ∧ fl f = N) : ∃ cell : Cell, H[ad f n]? = some cell ∧ cell.vm.isStatics = false ∧ s.vm.findClass C = some cell.cls := by
  obtain ⟨hf0, hc, hN⟩ := hf
  have h := hB.2.1 f n hX
  unfold s_at at h
  rw [if_pos hf0] at h
  obtain ⟨cell, q1, q2, q3, q4⟩ := h
  exact ⟨cell, q1, by rw [q3]; rfl, by rw [q2]; exact (hK.1 (fc f) _ hc).2.1⟩
theorem s_pre (hK : va_K D cls (tyl aC) s) (hB : s_B D aC ad X Z S A G H0 H locs) {av : List Value} : ∀ U : State, U.heap = H → s.WarmedH U.vm → s_Pc av D aC ad X S A G av.toArray U := fun U hU hW => ⟨rfl, hB.1, by rw [hU]; exact hB.2.1, va_K.moved hW.alike hK⟩
theorem s_B.after (hB : s_B D aC ad X Z S A G H0 H locs) {S1 A1 : sS} {H1 : Heap} {L : List Loc} (hP : s_P D aC ad X S1 A1 G H1) (hz : H.size ≤ H1.size) (hk : ∀ q : Nat, q < H.size → ¬ s_N ad X q → H1[q]? = H[q]?) (hL : ∀ q ∈ L, s_N ad X q.base) : s_B D aC ad X Z S1 A1 G H0 H1 (locs ++ L) := by
  obtain ⟨hJ, -, hS, hZ⟩ := hB
  have hNZ : ∀ q, s_N ad X q → Z q := fun q h => by
    obtain ⟨f, n, hX, rfl⟩ := h
    exact hZ f n hX
  refine ⟨hJ, hP, ⟨Nat.le_trans hS.1 hz, fun q h1 h2 => ?_, fun q hq => ?_⟩, hZ⟩
  · rw [hk q (Nat.lt_of_lt_of_le h1 hS.1) (fun z => h2 (hNZ q z))]
    exact hS.2.1 q h1 h2
  · rcases List.mem_append.mp hq with h | h
    · exact hS.2.2 q h
    · exact hNZ _ (hL q h)
/-- a call of an instance method that only reads -/
theorem sr_vp (C0 : s_C p s m args meth c cc nL own ret0 D aC) (hB : s_B D aC ad X Z S A G H0 H locs) {f n : Nat} {v : Int32} (hM : Met l y (.code y bytes maxL ret :: wall) rm (s_Pc (.ref (ad f n) :: As) D aC ad X S A G) (s_Qp v) 0 0 (fun _ => False)) (hX : X f n) {C : String} {T : u_T} {N : Nat} (hf : fk f = 0 ∧ cls[fc f]? = some (C, T, N) ∧ fl f = N)
    (h1 : Cond.methodLink own index y ∈ wall) (h2 : Cond.instanceMethod y ∈ wall) (h3 : Cond.selects C y y ∈ wall) (h4 : Cond.initialized C ∈ wall) (h5 : Cond.code y bytes maxL ret ∈ wall)
    (hd : y.cls = C ∧ y.cls ≠ "java/lang/invoke/MethodHandle" ∧ y.cls ≠ "java/lang/invoke/VarHandle" ∧ (parseMethodDescriptor y.desc).map (fun d => d.parameters.length) = some As.length) (hR : (rm.cells = 0 ∧ rm.slots = 0) ∧ rm.frames + 1 ≤ R.frames ∧ 8 + (maxL + 11) + rm.locals ≤ R.locals) (hcs : cells ≤ R.cells ∧ slots ≤ R.slots) (hsz : ls.size = nL) (hst : st0 = As.reverse ++ .ref (ad f n) :: rest) (hro : (rest.map fun v => v.category).sum ≤ 8) (hdg : decode cc pc = .ok (.invokevirtual index, 3))
    (kk : W p l e R s m args below meth c H locs cells slots Q (F0 m (pc + 3) ls (.int v :: rest))) : W p l e R s m args below meth c H locs cells slots Q (F0 m pc ls st0) := by
  obtain ⟨hx, hb, hml, hown, hw, hK, -, -⟩ := C0
  refine vp_callSi (W.runV (Ts := wall) (rest := rest) ⟨hx, hb, hml, hown, hw⟩ hM (cwV As.length hw (s_goodV (fun w h => h) h1 h2 h3 h4 h5) rfl hR.1.1 hR.1.2 hd hR.2) ⟨s_Pc.blind, s_recv hK hB hX hf, s_pre hK hB⟩ rfl rfl hsz hst (lv_room hro) hdg hcs) (fun r hr => ?_)
  rw [hr]
  exact kk
theorem sr_sp (C0 : s_C p s m args meth c cc nL own ret0 D aC) (hB : s_B D aC ad X Z S A G H0 H locs) {v : Int32} (hM : Met l y (.code y bytes maxL ret :: wall) rm (s_Pc As D aC ad X S A G) (s_Qp v) 0 0 (fun _ => False))
    (h1 : Cond.methodLink own index y ∈ wall) (h2 : Cond.static y ∈ wall) (h4 : Cond.initialized own ∈ wall) (h5 : Cond.code y bytes maxL ret ∈ wall)
    (hd : y.cls = own ∧ y.cls ≠ "java/lang/invoke/MethodHandle" ∧ y.cls ≠ "java/lang/invoke/VarHandle" ∧ (parseMethodDescriptor y.desc).map (fun d => d.parameters.length) = some As.length) (hR : (rm.cells = 0 ∧ rm.slots = 0) ∧ rm.frames + 1 ≤ R.frames ∧ 8 + (maxL + 11) + rm.locals ≤ R.locals) (hcs : cells ≤ R.cells ∧ slots ≤ R.slots) (hsz : ls.size = nL) (hst : st0 = As.reverse ++ rest) (hro : (rest.map fun v => v.category).sum ≤ 8) (hdg : decode cc pc = .ok (.invokestatic index, 3))
    (kk : W p l e R s m args below meth c H locs cells slots Q (F0 m (pc + 3) ls (.int v :: rest))) : W p l e R s m args below meth c H locs cells slots Q (F0 m pc ls st0) := by
  obtain ⟨hx, hb, hml, hown, hw, hK, -, -⟩ := C0
  refine vp_callSi (W.runS (Ts := wall) (rest := rest) ⟨hx, hb, hml, hown, hw⟩ hM (cwS As.length hw (s_goodS (fun w h => h) h1 h2 h4 h5) rfl hR.1.1 hR.1.2 hd hR.2) ⟨s_Pc.blind, s_pre hK hB⟩ rfl rfl hsz hst (lv_room hro) hdg hcs) (fun r hr => ?_)
  rw [hr]
  exact kk
/-- a call of an instance method that writes, and answers a number -/
theorem sr_vi (C0 : s_C p s m args meth c cc nL own ret0 D aC) (hB : s_B D aC ad X Z S A G H0 H locs) {f n : Nat} {o : Int32 × sS × sS} (hM : Met l y (.code y bytes maxL ret :: wall) rm (s_Pc (.ref (ad f n) :: As) D aC ad X S A G) (s_Qi D aC ad X G o) 0 0 (s_N ad X)) (hX : X f n) {C : String} {T : u_T} {N : Nat} (hf : fk f = 0 ∧ cls[fc f]? = some (C, T, N) ∧ fl f = N)
    (h1 : Cond.methodLink own index y ∈ wall) (h2 : Cond.instanceMethod y ∈ wall) (h3 : Cond.selects C y y ∈ wall) (h4 : Cond.initialized C ∈ wall) (h5 : Cond.code y bytes maxL ret ∈ wall)
    (hd : y.cls = C ∧ y.cls ≠ "java/lang/invoke/MethodHandle" ∧ y.cls ≠ "java/lang/invoke/VarHandle" ∧ (parseMethodDescriptor y.desc).map (fun d => d.parameters.length) = some As.length) (hR : (rm.cells = 0 ∧ rm.slots = 0) ∧ rm.frames + 1 ≤ R.frames ∧ 8 + (maxL + 11) + rm.locals ≤ R.locals) (hcs : cells ≤ R.cells ∧ slots ≤ R.slots) (hsz : ls.size = nL) (hst : st0 = As.reverse ++ .ref (ad f n) :: rest) (hro : (rest.map fun v => v.category).sum ≤ 8) (hdg : decode cc pc = .ok (.invokevirtual index, 3))
    (kk : ∀ (H1 : Heap) (locs1 : List Loc), s_B D aC ad X Z o.2.1 o.2.2 G H0 H1 locs1 → W p l e R s m args below meth c H1 locs1 cells slots Q (F0 m (pc + 3) ls (.int o.1 :: rest))) : W p l e R s m args below meth c H locs cells slots Q (F0 m pc ls st0) := by
  obtain ⟨hx, hb, hml, hown, hw, hK, -, -⟩ := C0
  have hr := va_runV (p := p) (e := e) (below := below) (meth := meth) (locs := locs) (cells := cells) (slots := slots) (g := F0 m pc ls st0) (Ts := wall) (rest := rest) ⟨hx, hb, hml, hown, hw⟩ hM (cwV As.length hw (s_goodV (fun w h => h) h1 h2 h3 h4 h5) rfl hR.1.1 hR.1.2 hd hR.2) ⟨s_Pc.blind, s_recv hK hB hX hf, s_pre hK hB⟩ rfl rfl hsz hst (lv_room hro) hdg hcs
  intro T hT X1
  obtain ⟨v, st₀, t, T', L, h0, X', hL, e1, e2, ⟨hv, hp, hz, hk⟩, st⟩ := hr T hT X1
  cases hv
  rw [h0] at hz hk
  obtain ⟨t2, a1, b1⟩ := kk T'.heap (locs ++ L) (hB.after (by rw [e1]; exact hp) (by rw [e1]; exact hz) (fun q h1 h2 => by rw [e1]; exact hk q h1 h2) hL) T' rfl X'
  exact ⟨t2, st t2 a1, b1⟩
theorem sr_vv (C0 : s_C p s m args meth c cc nL own ret0 D aC) (hB : s_B D aC ad X Z S A G H0 H locs) {f n : Nat} {o : sS × sS} (hM : Met l y (.code y bytes maxL ret :: wall) rm (s_Pc (.ref (ad f n) :: As) D aC ad X S A G) (s_Qv D aC ad X G o) 0 0 (s_N ad X)) (hX : X f n) {C : String} {T : u_T} {N : Nat} (hf : fk f = 0 ∧ cls[fc f]? = some (C, T, N) ∧ fl f = N)
    (h1 : Cond.methodLink own index y ∈ wall) (h2 : Cond.instanceMethod y ∈ wall) (h3 : Cond.selects C y y ∈ wall) (h4 : Cond.initialized C ∈ wall) (h5 : Cond.code y bytes maxL ret ∈ wall)
    (hd : y.cls = C ∧ y.cls ≠ "java/lang/invoke/MethodHandle" ∧ y.cls ≠ "java/lang/invoke/VarHandle" ∧ (parseMethodDescriptor y.desc).map (fun d => d.parameters.length) = some As.length) (hR : (rm.cells = 0 ∧ rm.slots = 0) ∧ rm.frames + 1 ≤ R.frames ∧ 8 + (maxL + 11) + rm.locals ≤ R.locals) (hcs : cells ≤ R.cells ∧ slots ≤ R.slots) (hsz : ls.size = nL) (hst : st0 = As.reverse ++ .ref (ad f n) :: rest) (hro : (rest.map fun v => v.category).sum ≤ 8) (hdg : decode cc pc = .ok (.invokevirtual index, 3))
    (kk : ∀ (H1 : Heap) (locs1 : List Loc), s_B D aC ad X Z o.1 o.2 G H0 H1 locs1 → W p l e R s m args below meth c H1 locs1 cells slots Q (F0 m (pc + 3) ls rest)) : W p l e R s m args below meth c H locs cells slots Q (F0 m pc ls st0) := by
  obtain ⟨hx, hb, hml, hown, hw, hK, -, -⟩ := C0
  have hr := va_runV (p := p) (e := e) (below := below) (meth := meth) (locs := locs) (cells := cells) (slots := slots) (g := F0 m pc ls st0) (Ts := wall) (rest := rest) ⟨hx, hb, hml, hown, hw⟩ hM (cwV As.length hw (s_goodV (fun w h => h) h1 h2 h3 h4 h5) rfl hR.1.1 hR.1.2 hd hR.2) ⟨s_Pc.blind, s_recv hK hB hX hf, s_pre hK hB⟩ rfl rfl hsz hst (lv_room hro) hdg hcs
  intro T hT X1
  obtain ⟨v, st₀, t, T', L, h0, X', hL, e1, e2, ⟨hv, hp, hz, hk⟩, st⟩ := hr T hT X1
  cases hv
  rw [h0] at hz hk
  obtain ⟨t2, a1, b1⟩ := kk T'.heap (locs ++ L) (hB.after (by rw [e1]; exact hp) (by rw [e1]; exact hz) (fun q h1 h2 => by rw [e1]; exact hk q h1 h2) hL) T' rfl X'
  exact ⟨t2, st t2 a1, b1⟩
/-- the ends -/
theorem se_pi (C0 : s_C p s m args meth c cc nL own (some .int) D aC) {v o : Int32} (hv : v = o) (hdg : decode cc pc = .ok (.ireturn, 1)) : W p l e R s m args below meth c s.heap [] cells slots (MQ below (s_Qp o) args s cells slots (fun _ => False)) (F0 m pc ls [.int v]) := by
  obtain ⟨hx, hb, -, -, -, -, hr, hlocks⟩ := C0
  exact W.iret hx hb hr (fun t ht hW => ⟨v, rfl, hv, ht⟩) (fun q h => by cases h) hdg hlocks
theorem se_pz (C0 : s_C p s m args meth c cc nL own (some .boolean) D aC) {v o : Int32} (hn : v = 0 ∨ v = 1) (hv : v = o) (hdg : decode cc pc = .ok (.ireturn, 1)) : W p l e R s m args below meth c s.heap [] cells slots (MQ below (s_Qp o) args s cells slots (fun _ => False)) (F0 m pc ls [.int v]) := by
  obtain ⟨hx, hb, -, -, -, -, hr, hlocks⟩ := C0
  exact W.zret hx hb hr (by rcases hn with rfl | rfl <;> rfl) (fun t ht hW => ⟨v, rfl, hv, ht⟩) (fun q h => by cases h) hdg hlocks
theorem se_i (C0 : s_C p s m args meth c cc nL own (some .int) D aC) (hB : s_B D aC ad X (s_N ad X) S A G s.heap H locs) {v : Int32} {o : Int32 × sS × sS} (hv : (v, S, A) = o) (hdg : decode cc pc = .ok (.ireturn, 1)) : W p l e R s m args below meth c H locs cells slots (MQ below (s_Qi D aC ad X G o) args s cells slots (s_N ad X)) (F0 m pc ls [.int v]) := by
  subst hv
  obtain ⟨hx, hb, -, -, -, -, hr, hlocks⟩ := C0
  exact W.iret hx hb hr (fun t ht hW => ⟨rfl, by rw [ht]; exact hB.2.1, hB.2.2.1.F ht⟩) hB.2.2.1.2.2 hdg hlocks
theorem se_v (C0 : s_C p s m args meth c cc nL own none D aC) (hB : s_B D aC ad X (s_N ad X) S A G s.heap H locs) {o : sS × sS} (hv : (S, A) = o) (hdg : decode cc pc = .ok (.return_, 1)) : W p l e R s m args below meth c H locs cells slots (MQ below (s_Qv D aC ad X G o) args s cells slots (s_N ad X)) (F0 m pc ls []) := by
  subst hv
  obtain ⟨hx, hb, -, -, -, -, hr, hlocks⟩ := C0
  exact W.vret hx hb hr (fun t ht hW => ⟨rfl, by rw [ht]; exact hB.2.1, hB.2.2.1.F ht⟩) hB.2.2.1.2.2 hdg hlocks
end SCALL
