/-! rows for the law: calls of methods that make an object; calls of constructors that leave a store; two stores as one -/
theorem a_blind {av : List Value} {D : va_G} {aC : Nat → ClassId} {ad : Nat → Nat → Nat} {X : Nat → Nat → Prop} {S A : sS} {G : sG} {sz : Nat} : FrameBlind (a_Pc av D aC ad X S A G sz) := fun a U g mk q => by
  obtain ⟨q0, qz, qJ, qP, qK⟩ := q
  exact ⟨q0, qz, qJ, qP, va_K.moved (u := U) (U := U.calling g mk a) (Vm.Alike.refl U.vm) qK⟩
section LROW
variable {p : Program} {l : Launch} {e : Env} {R : Room} {s : State} {m : MethodId} {args : Array Value} {below : List Frame} {meth : Method} {c : Code} {H : Heap} {locs : List Loc} {cells slots : Nat} {Q : State → Prop}
variable {cc : ByteArray} {nL : Nat} {own : String} {ret0 : Option FieldType} {pc : Nat} {ls : Array Slot} {rest st0 As : List Value} {D : va_G} {aC : Nat → ClassId} {ad : Nat → Nat → Nat} {X : Nat → Nat → Prop} {Z : Nat → Prop} {S A : sS} {G : sG} {H0 : Heap}
variable {y : MethodName} {bytes : ByteArray} {maxL index mc ms : Nat} {ret : Option FieldType} {rm : Room}
theorem sr_va (C0 : s_C p s m args meth c cc nL own ret0 D aC) (hB : s_B D aC ad X Z S A G H0 H locs) (hZn : ∀ q, H0.size ≤ q → Z q) {f n fm ar : Nat} {o : Int32 × sS × sS × Option Nat} (hM : Met l y (.code y bytes maxL ret :: wall) rm (a_Pc (.ref (ad f n) :: As) D aC ad X S A G H.size) (a_Q D aC ad X G fm ar o H.size) mc ms (a_Z ad X H.size)) (hX : X f n) {C : String} {T : u_T} {N : Nat} (hf : fk f = 0 ∧ cls[fc f]? = some (C, T, N) ∧ fl f = N)
    (h1 : Cond.methodLink own index y ∈ wall) (h2 : Cond.instanceMethod y ∈ wall) (h3 : Cond.selects C y y ∈ wall) (h4 : Cond.initialized C ∈ wall) (h5 : Cond.code y bytes maxL ret ∈ wall)
    (hd : y.cls = C ∧ y.cls ≠ "java/lang/invoke/MethodHandle" ∧ y.cls ≠ "java/lang/invoke/VarHandle" ∧ (parseMethodDescriptor y.desc).map (fun d => d.parameters.length) = some As.length) (hR : (rm.cells = mc ∧ rm.slots = ms) ∧ rm.frames + 1 ≤ R.frames ∧ 8 + (maxL + 11) + rm.locals ≤ R.locals) (hcs : cells + mc ≤ R.cells ∧ slots + ms ≤ R.slots) (hsz : ls.size = nL) (hst : st0 = As.reverse ++ .ref (ad f n) :: rest) (hro : (rest.map fun v => v.category).sum ≤ 8) (hdg : decode cc pc = .ok (.invokevirtual index, 3))
    (kk : ∀ (ad1 : Nat → Nat → Nat) (H1 : Heap) (locs1 : List Loc), (∀ f n, X f n → ad1 f n = ad f n) → s_B D aC ad1 (aX X fm o.2.2.2) Z o.2.1 o.2.2.1 (aG G ar o.2.2.2) H0 H1 locs1 → W p l e R s m args below meth c H1 locs1 (cells + mc) (slots + ms) Q (F0 m (pc + 3) ls (.int o.1 :: rest))) : W p l e R s m args below meth c H locs cells slots Q (F0 m pc ls st0) := by
  obtain ⟨hx, hb, hml, hown, hw, hK, -, -⟩ := C0
  have hr := va_runV (p := p) (e := e) (below := below) (meth := meth) (locs := locs) (cells := cells) (slots := slots) (g := F0 m pc ls st0) (Ts := wall) (rest := rest) ⟨hx, hb, hml, hown, hw⟩ hM (cwV As.length hw (s_goodV (fun w h => h) h1 h2 h3 h4 h5) rfl hR.1.1 hR.1.2 hd hR.2) ⟨a_blind, s_recv hK hB hX hf, fun U hU hW => ⟨rfl, by rw [hU], hB.1, by rw [hU]; exact hB.2.1, va_K.moved hW.alike hK⟩⟩ rfl rfl hsz hst (lv_room hro) hdg hcs
  obtain ⟨hJ, hP, hV, hZ⟩ := hB
  have hZZ : ∀ q, a_Z ad X H.size q → Z q := fun q h => by
    rcases h with ⟨f, n, hx, rfl⟩ | h
    · exact hZ f n hx
    · exact hZn q (Nat.le_trans hV.1 h)
  intro T hT X1
  obtain ⟨v, st₀, t, T', L, h0, X', hL, e1, e2, ⟨hv, ⟨ad1, j1, j2, j3, j4⟩, hz, hk⟩, st⟩ := hr T hT X1
  cases hv
  rw [h0] at hz hk
  have hB1 : s_B D aC ad1 (aX X fm o.2.2.2) Z o.2.1 o.2.2.1 (aG G ar o.2.2.2) H0 T'.heap (locs ++ L) := by
    refine ⟨j1, by rw [e1]; exact j2, ⟨Nat.le_trans hV.1 (by rw [e1]; exact hz), fun q g1 g2 => ?_, fun q hq => ?_⟩, fun f n h => hZZ _ (j4 f n h)⟩
    · rw [e1, hk q (Nat.lt_of_lt_of_le g1 hV.1) (fun z => g2 (hZZ q z))]
      exact hV.2.1 q g1 g2
    · rcases List.mem_append.mp hq with h | h
      · exact hV.2.2 q h
      · exact hZZ _ (hL q h)
  obtain ⟨t2, a1, b1⟩ := kk ad1 T'.heap (locs ++ L) j3 hB1 T' rfl X'
  exact ⟨t2, st t2 a1, b1⟩
/-- a constructor that leaves a store, called beside a store that stays -/
theorem cr_k {a : Nat} {e0 : va_E} {Ex : (Nat → Nat → Nat) → sS → sS → sG → Prop} {X2 : Nat → Nat → Prop} {Qa : State → Outcome → State → Prop} (hr : va_Run p l e R s m args below meth c H locs cells slots mc ms (F0 m pc ls st0) rest Qa (fun q => q = a ∨ H.size ≤ q)) (hQ : ∀ (st : State) (oc : Outcome) (t : State), Qa st oc t → oc = .returned none ∧ (∃ (ad2 : Nat → Nat → Nat) (S2 A2 : sS) (G2 : sG), s_J ad2 X2 ∧ s_P D aC ad2 X2 S2 A2 G2 t.heap ∧ Ex ad2 S2 A2 G2 ∧ (∀ f n, X2 f n → ad2 f n = a ∨ H.size ≤ ad2 f n)) ∧ va_F (fun q => q = a ∨ H.size ≤ q) st t) (hC : c_B D aC ad X Z S A G [(a, e0)] H0 H locs) (hZn : ∀ q, H0.size ≤ q → Z q)
    (kk : ∀ (ad2 : Nat → Nat → Nat) (S2 A2 : sS) (G2 : sG) (H1 : Heap) (locs1 : List Loc), s_B D aC ad X Z S A G H0 H1 locs1 → s_J ad2 X2 → s_P D aC ad2 X2 S2 A2 G2 H1 → Ex ad2 S2 A2 G2 → (∀ f n, X2 f n → Z (ad2 f n)) → (∀ f n f1 n1, X f n → X2 f1 n1 → ad f n ≠ ad2 f1 n1) → W p l e R s m args below meth c H1 locs1 (cells + mc) (slots + ms) Q (F0 m (pc + 3) ls rest)) : W p l e R s m args below meth c H locs cells slots Q (F0 m pc ls st0) := by
  obtain ⟨⟨hJ, hP, hV, hZ⟩, hL, hw, hnd⟩ := hC
  obtain ⟨hea, hZa, hna⟩ := hw _ List.mem_cons_self
  intro T hT X1
  obtain ⟨v, st₀, t, T', L, h0, X', hLf, e1, e2, hq9, st⟩ := hr T hT X1
  obtain ⟨hv, ⟨ad2, S2, A2, G2, j1, j2, j3, j4⟩, hz, hk⟩ := hQ _ _ _ hq9
  cases hv
  rw [h0] at hz hk
  have keep : ∀ q : Nat, q < H.size → q ≠ a → T'.heap[q]? = H[q]? := fun q h1 h2 => by rw [e1]; exact hk q h1 (fun z => z.elim h2 (fun z => by omega))
  have hZq : ∀ q, (q = a ∨ H.size ≤ q) → Z q := fun q h => by
    rcases h with rfl | h
    · exact hZa
    · exact hZn q (Nat.le_trans hV.1 h)
  have hB1 : s_B D aC ad X Z S A G H0 T'.heap (locs ++ L) := by
    refine ⟨hJ, fun f n h => (hP f n h).kept (keep _ (hP f n h).lt (fun z => hna ⟨f, n, h, z⟩)), ⟨Nat.le_trans hV.1 (by rw [e1]; exact hz), fun q h1 h2 => ?_, fun q hq => ?_⟩, hZ⟩
    · rw [keep q (Nat.lt_of_lt_of_le h1 hV.1) (fun z => h2 (by rw [z]; exact hZa))]
      exact hV.2.1 q h1 h2
    · rcases List.mem_append.mp hq with h | h
      · exact hV.2.2 q h
      · exact hZq _ (hLf q h)
  obtain ⟨t2, a1, b1⟩ := kk ad2 S2 A2 G2 T'.heap (locs ++ L) hB1 j1 (by rw [e1]; exact j2) j3 (fun f n h => hZq _ (j4 f n h)) (fun f n f1 n1 h h1 z => by
    have hlt := (hP f n h).lt
    rcases j4 f1 n1 h1 with g | g
    · exact hna ⟨f, n, h, z.trans g⟩
    · omega) T' rfl X'
  exact ⟨t2, st t2 a1, b1⟩
end LROW
def adm (a1 a2 : Nat → Nat → Nat) : Nat → Nat → Nat := fun f n => if f < 20 then a1 f n else a2 f n
def Sm (S1 S2 : sS) : sS := fun f n k => if f < 20 then S1 f n k else S2 f n k
def Xm (X1 X2 : Nat → Nat → Prop) : Nat → Nat → Prop := fun f n => X1 f n ∨ X2 f n
theorem fr_lo : ∀ f, f < 20 → ∀ k, k < fl f → fr f k < 20 := by decide +kernel
theorem fe_lo : ∀ f, f < 20 → fe f < 20 := by decide +kernel
theorem fr_hi : ∀ f, f < 60 → 20 ≤ f → ∀ k, k < fl f → fk f = 0 → fr f k = 0 ∨ 20 ≤ fr f k := by decide +kernel
theorem s_merge {D : va_G} {aC : Nat → ClassId} {a1 a2 : Nat → Nat → Nat} {X1 X2 : Nat → Nat → Prop} {Z : Nat → Prop} {S1 S2 A1 A2 : sS} {G1 G2 : sG} {H0 H : Heap} {locs : List Loc} (hB : s_B D aC a1 X1 Z S1 A1 G1 H0 H locs) (hJ2 : s_J a2 X2) (hP2 : s_P D aC a2 X2 S2 A2 G2 H) (hZ2 : ∀ f n, X2 f n → Z (a2 f n)) (h1 : ∀ f n, X1 f n → f < 20) (h2 : ∀ f n, X2 f n → 20 ≤ f ∧ f < 60 ∧ fk f ≠ 3) (hd : ∀ f n f1 n1, X1 f n → X2 f1 n1 → a1 f n ≠ a2 f1 n1) : s_B D aC (adm a1 a2) (Xm X1 X2) Z (Sm S1 S2) (Sm A1 A2) G1 H0 H locs := by
  obtain ⟨hJ, hP, hV, hZ⟩ := hB
  have lo : ∀ f n, f < 20 → adm a1 a2 f n = a1 f n := fun f n h => if_pos h
  have hi : ∀ f n, 20 ≤ f → adm a1 a2 f n = a2 f n := fun f n h => if_neg (by omega)
  refine ⟨fun f n f1 n1 x y q => ?_, fun f n x => ?_, hV, fun f n x => ?_⟩
  · rcases x with x | x <;> rcases y with y | y
    · rw [lo _ _ (h1 _ _ x), lo _ _ (h1 _ _ y)] at q; exact hJ _ _ _ _ x y q
    · rw [lo _ _ (h1 _ _ x), hi _ _ (h2 _ _ y).1] at q; exact absurd q (hd _ _ _ _ x y)
    · rw [hi _ _ (h2 _ _ x).1, lo _ _ (h1 _ _ y)] at q; exact absurd q.symm (hd _ _ _ _ y x)
    · rw [hi _ _ (h2 _ _ x).1, hi _ _ (h2 _ _ y).1] at q; exact hJ2 _ _ _ _ x y q
  · rcases x with x | x
    · have hf := h1 _ _ x
      refine (hP f n x).to (lo f n hf) (fun c k hk => ?_) (fun c i hi9 => ?_)
      · unfold s_fv
        by_cases z : fr f k = 0
        · rw [if_pos z, if_pos z]; unfold Sm; rw [if_pos hf]
        · rw [if_neg z, if_neg z, lo _ _ (fr_lo f hf k hk)]
      · unfold s_av
        by_cases z : fk f = 3
        · rw [if_pos z, if_pos z]
          have : adm a1 a2 (fe f) = a1 (fe f) := funext fun q => lo _ _ (fe_lo f hf)
          rw [this]
        · rw [if_neg z, if_neg z]; unfold Sm; rw [if_pos hf]
    · obtain ⟨hf, hf2, hf3⟩ := h2 _ _ x
      refine (hP2 f n x).to (hi f n hf) (fun c k hk => ?_) (fun c i hi9 => ?_)
      · unfold s_fv
        by_cases z : fr f k = 0
        · rw [if_pos z, if_pos z]; unfold Sm; rw [if_neg (by omega)]
        · rw [if_neg z, if_neg z]
          rcases fr_hi f hf2 hf k hk c with g | g
          · exact absurd g z
          · rw [hi _ _ g]
      · unfold s_av
        rw [if_neg hf3, if_neg hf3]; unfold Sm; rw [if_neg (by omega)]
  · rcases x with x | x
    · rw [lo _ _ (h1 _ _ x)]; exact hZ f n x
    · rw [hi _ _ (h2 _ _ x).1]; exact hZ2 f n x
