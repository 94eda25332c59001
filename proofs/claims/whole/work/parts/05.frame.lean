/-! the frame of a contract's proof; small rows for the walks -/
def rmk (k : Nat) : Room := { frames := k, cells := 0, slots := 0, locals := 40 * k }
theorem s_met {l : Launch} {y : MethodName} {b : ByteArray} {n : Nat} {ret : Option FieldType} {rm : Room} {av : List Value} {D : va_G} {aC : Nat → ClassId} {ad : Nat → Nat → Nat} {X : Nat → Nat → Prop} {S A : sS} {G : sG} {Qc : Array Value → State → Outcome → State → Prop} {free : Addr → Prop} {own : String} (hy : plainName y.cls = true) (ho : y.cls = own) (hn : (lg_sl av).length ≤ n)
    (body : ∀ (p : Program) (e : Env) (s : State) (m : MethodId) (args : Array Value) (below : List Frame) (meth : Method) (c : Code), s_C p s m args meth c b n own ret D aC → s_B D aC ad X (s_N ad X) S A G s.heap s.heap [] → ∀ ls : Array Slot, lv_has ls n (lv_args 0 av) → W p l e rm s m args below meth c s.heap [] 0 0 (MQ below Qc args s 0 0 free) (F0 m 0 ls [])) : Met l y (.code y b n ret :: wall) rm (s_Pc av D aC ad X S A G) Qc 0 0 free := by
  refine Met.ofW (cc := b) (maxL := n) (ret := ret) hy rfl ?_
  intro p e s m args below meth c s₁ B hml hv
  obtain ⟨rfl, hJ, hP, hK⟩ := hv
  have hw : ∀ w ∈ wall, w.before av.toArray s = true := fun w h => atoms_spec (ws := .code y b n ret :: wall) B.pre w (List.mem_cons_of_mem _ h)
  have hown : s.vm.findClass own = some m.cls := by rw [← ho]; exact findClass_of_methodNamed B.named
  have hl := lv_entry av (n := n) hn
  rw [lg_entry_eq]
  exact body p e s m _ below meth c ⟨B.exec, B.bytes, hml, hown, hw, hK, B.returns, B.notSynchronized⟩ ⟨hJ, hP, va_S.rf, fun f n h => ⟨f, n, h, rfl⟩⟩ _ hl
/-- which cells stand: the reference's, the class's -/
def xR (X : Nat → Nat → Prop) : Prop := ∀ f, (fk f ≠ 9 ∧ 20 ≤ f) → X f 0
def xC (X : Nat → Nat → Prop) (G : sG) : Prop := (∀ f, f ≤ 10 → X f 0) ∧ (∀ n, n < 2 → X 11 n) ∧ (∀ n, n < 64 → X 15 n ∧ X 16 n ∧ X 17 n) ∧ (∀ i n, G 1 i = some n → n = i ∧ X 12 n) ∧ (∀ i n, G 2 i = some n → n = i ∧ X 13 n) ∧ (∀ i n, G 4 i = some n → n = i ∧ X 14 n) ∧ (∀ i, i < 64 → G 3 i = some i) ∧ (∀ i, i < 2 → G 10 i = some i)
theorem gu {X : Nat → Nat → Prop} {G : sG} (hX : xC X G) {i : Nat} (h : ¬ G 1 i = none) : G 1 i = some i ∧ X 12 i := by
  cases e : G 1 i with
  | none => exact absurd e h
  | some n => obtain ⟨rfl, h2⟩ := hX.2.2.2.1 i n e; exact ⟨rfl, h2⟩
theorem gi {X : Nat → Nat → Prop} {G : sG} (hX : xC X G) {i : Nat} (h : ¬ G 2 i = none) : G 2 i = some i ∧ X 13 i := by
  cases e : G 2 i with
  | none => exact absurd e h
  | some n => obtain ⟨rfl, h2⟩ := hX.2.2.2.2.1 i n e; exact ⟨rfl, h2⟩
theorem go {X : Nat → Nat → Prop} {G : sG} (hX : xC X G) {i : Nat} (h : ¬ G 4 i = none) : G 4 i = some i ∧ X 14 i := by
  cases e : G 4 i with
  | none => exact absurd e h
  | some n => obtain ⟨rfl, h2⟩ := hX.2.2.2.2.2.1 i n e; exact ⟨rfl, h2⟩
theorem gb {X : Nat → Nat → Prop} {G : sG} (hX : xC X G) {i : Nat} (h : i < 64) : G 3 i = some i := hX.2.2.2.2.2.2.1 i h
theorem gc {X : Nat → Nat → Prop} {G : sG} (hX : xC X G) {i : Nat} (h : i < 2) : G 10 i = some i := hX.2.2.2.2.2.2.2 i h
theorem s_cl {A : sS} {f n j : Nat} (h : j < 2 ^ 31) : A f n (nI j).toNatClampNeg = A f n j := by rw [nI_clamp h]
theorem nb_n {v : Int32} (h : v = 0 ∨ v = 1) : narrow .boolean (.int v) = .int v := by rcases h with rfl | rfl <;> rfl
theorem nb_f {v : Int32} (h : v = 0 ∨ v = 1) : fits .boolean (.int v) = true := by rcases h with rfl | rfl <;> rfl
theorem lt_i {x y : Int32} (h : x < y) : x.toInt < y.toInt := Int32.lt_iff_toInt_lt.mp h
theorem nlt_i {x y : Int32} (h : ¬ x < y) : y.toInt ≤ x.toInt := Int.not_lt.mp (fun q => h (Int32.lt_iff_toInt_lt.mpr q))
theorem le_i {x y : Int32} (h : x ≤ y) : x.toInt ≤ y.toInt := Int32.le_iff_toInt_le.mp h
theorem nle_i {x y : Int32} (h : ¬ x ≤ y) : y.toInt < x.toInt := Int.not_le.mp (fun q => h (Int32.le_iff_toInt_le.mpr q))
theorem sub1_i {x : Int32} (h : -2147483648 < x.toInt) : (x - 1).toInt = x.toInt - 1 := by
  rw [Int32.toInt_sub, show (1 : Int32).toInt = 1 by decide]
  have h1 := Int32.toInt_lt x
  have h2 := Int32.le_toInt x
  rw [Int.bmod_eq_of_le] <;> omega
theorem ofm1 : Int32.ofInt (-1) = (-1 : Int32) := by decide
theorem lm1 : (-1 : Int32).toInt = -1 := by rfl
theorem ne_i {x y : Int32} (h : ¬ x = y) : ¬ x.toInt = y.toInt := fun q => h (Int32.toInt_inj.mp q)
theorem ln1 : (-1 : Int32).toInt = -1 := by rfl
theorem ln2 : (-2 : Int32).toInt = -2 := by rfl
theorem ln3 : (-3 : Int32).toInt = -3 := by rfl
theorem ln4 : (-4 : Int32).toInt = -4 := by rfl
theorem ln5 : (-5 : Int32).toInt = -5 := by rfl
theorem ln6 : (-6 : Int32).toInt = -6 := by rfl
theorem ln7 : (-7 : Int32).toInt = -7 := by rfl
theorem ln8 : (-8 : Int32).toInt = -8 := by rfl
theorem ln9 : (-9 : Int32).toInt = -9 := by rfl
theorem ln10 : (-10 : Int32).toInt = -10 := by rfl
theorem add_i {x y : Int32} (h1 : -2147483648 ≤ x.toInt + y.toInt) (h2 : x.toInt + y.toInt < 2147483648) : (x + y).toInt = x.toInt + y.toInt := by
  rw [Int32.toInt_add, Int.bmod_eq_of_le] <;> omega
theorem sub_i {x y : Int32} (h1 : -2147483648 ≤ x.toInt - y.toInt) (h2 : x.toInt - y.toInt < 2147483648) : (x - y).toInt = x.toInt - y.toInt := by
  rw [Int32.toInt_sub, Int.bmod_eq_of_le] <;> omega
theorem dec_i {x : Int32} (h : -2147483648 < x.toInt) : (x + (-1)).toInt = x.toInt - 1 := by
  have a := lm1
  rw [add_i (by rw [a]; omega) (by rw [a]; have := Int32.toInt_lt x; omega), a]
  omega
theorem mul6_i {x : Int32} (h1 : 0 ≤ x.toInt) (h2 : x.toInt < 300000000) : (6 * x).toInt = 6 * x.toInt := by
  rw [Int32.toInt_mul, show (6 : Int32).toInt = 6 by decide, Int.bmod_eq_of_le] <;> omega
theorem cl_i {x : Int32} (h : 0 ≤ x.toInt) : (x.toNatClampNeg : Int) = x.toInt := by
  have h3 : x.toNatClampNeg = x.toInt.toNat := rfl
  rw [h3]; omega
theorem ix6_i {x : Int32} {j : Nat} (h0 : 0 ≤ x.toInt) (h1 : x.toInt < 1000) (hj : j < 1000) : (6 * x + nI j).toInt = 6 * x.toInt + j := by
  have a := mul6_i h0 (by omega)
  have b := nI_toInt (n := j) (by omega)
  rw [add_i (by omega) (by omega), a, b]
theorem ix6 {x : Int32} {j : Nat} (h0 : 0 ≤ x.toInt) (h1 : x.toInt < 1000) (hj : j < 1000) : (6 * x + nI j).toNatClampNeg = 6 * x.toNatClampNeg + j := by
  have a := ix6_i h0 h1 hj
  have b := cl_i (x := 6 * x + nI j) (by omega)
  have c := cl_i h0
  omega
theorem ix6_in {x : Int32} {j N : Nat} (h0 : 0 ≤ x.toInt) (h1 : x.toInt < 1000) (hj : j < 1000) (h : 6 * x.toInt + j < N) : vp_in (6 * x + nI j) N := by
  have a := ix6_i h0 h1 hj
  exact vp_in_iff.mpr (by omega)
theorem ix6z {x : Int32} (h0 : 0 ≤ x.toInt) (h1 : x.toInt < 1000) : (6 * x).toNatClampNeg = 6 * x.toNatClampNeg := by
  have a := mul6_i h0 (by omega)
  have b := cl_i (x := 6 * x) (by omega)
  have c := cl_i h0
  omega
theorem nI_cl {x : Int32} (h : 0 ≤ x.toInt) : x = nI x.toNatClampNeg := by
  obtain ⟨j, hj, rfl⟩ := nI_of (x := x) (fun q => by (have h1 := lt_i q); (have h2 : (0 : Int32).toInt = 0 := by decide); omega)
  rw [nI_clamp hj]
theorem ix6m_i {x : Int32} {j : Nat} (h0 : 0 ≤ x.toInt) (h1 : x.toInt < 1000) (hj : j < 1000) (hp : 0 < j) : ((6 * x + nI j) - 1).toInt = 6 * x.toInt + (j - 1 : Nat) := by
  have a := ix6_i h0 h1 hj
  rw [sub1_i (by omega)]
  omega
theorem ix6m {x : Int32} {j : Nat} (h0 : 0 ≤ x.toInt) (h1 : x.toInt < 1000) (hj : j < 1000) (hp : 0 < j) : ((6 * x + nI j) - 1).toNatClampNeg = 6 * x.toNatClampNeg + (j - 1) := by
  have a := ix6m_i h0 h1 hj hp
  have b := cl_i (x := (6 * x + nI j) - 1) (by omega)
  have c := cl_i h0
  omega
theorem ix6m_in {x : Int32} {j N : Nat} (h0 : 0 ≤ x.toInt) (h1 : x.toInt < 1000) (hj : j < 1000) (hp : 0 < j) (h : 6 * x.toInt + j ≤ N) : vp_in ((6 * x + nI j) - 1) N := by
  have a := ix6m_i h0 h1 hj hp
  exact vp_in_iff.mpr (by omega)
theorem ix6z_in {x : Int32} {N : Nat} (h0 : 0 ≤ x.toInt) (h1 : x.toInt < 1000) (h : 6 * x.toInt < N) : vp_in (6 * x) N := by
  have a := mul6_i h0 (by omega)
  exact vp_in_iff.mpr (by omega)
theorem at_i {P : Nat → Prop} {N : Nat} (h : ∀ i, i < N → P i) {x : Int32} (hx : 0 ≤ x.toInt ∧ x.toInt < N) : P x.toNatClampNeg := h _ (by have := cl_i hx.1; omega)
theorem ixm_i {j : Nat} (hj : j < 1000) (hp : 0 < j) : (nI j - 1).toInt = (j - 1 : Nat) := by
  have a := nI_toInt (n := j) (by omega)
  rw [sub1_i (by omega)]
  omega
theorem ixm {j : Nat} (hj : j < 1000) (hp : 0 < j) : (nI j - 1).toNatClampNeg = j - 1 := by
  have a := ixm_i hj hp
  have b := cl_i (x := nI j - 1) (by omega)
  omega
theorem ixm_in {j N : Nat} (hj : j < 1000) (hp : 0 < j) (h : j ≤ N) : vp_in (nI j - 1) N := by
  have a := ixm_i hj hp
  exact vp_in_iff.mpr (by omega)
theorem tab_out {x : Int32} (n : Nat) (hn : n < 2 ^ 31) (h0 : 0 < n) (h : ∀ k : Nat, k < n → x = Int32.ofNat k → False) : x.toInt < 0 ∨ ((n - 1 : Nat) : Int) < x.toInt := by
  by_cases h1 : x.toInt < 0
  · exact Or.inl h1
  · refine Or.inr ?_
    by_cases h2 : ((n - 1 : Nat) : Int) < x.toInt
    · exact h2
    · exfalso
      obtain ⟨j, hj, hx⟩ := nI_of (x := x) (fun q => h1 (lt_i q))
      have e : x.toInt = (j : Int) := by rw [hx]; exact nI_toInt hj
      exact h j (by omega) hx
section SNUL
variable {p : Program} {l : Launch} {e : Env} {R : Room} {s : State} {m : MethodId} {args : Array Value} {below : List Frame} {meth : Method} {c : Code} {H : Heap} {locs : List Loc} {cells slots : Nat} {Q : State → Prop}
variable {cc : ByteArray} {pc : Nat} {ls : Array Slot} {rest : List Value}
theorem sr_ifnull (hexec : p.tables.exec = Jvm.exec) (hb : c.code = cc) {v : Option Nat} {g : Nat → Nat} {off : Int} {tgt : Nat} (hdg : decode cc pc = .ok (.ifnull off, 3)) (ht : (pc : Int) + off = (tgt : Int)) (kt : v = none → W p l e R s m args below meth c H locs cells slots Q (F0 m tgt ls rest)) (kf : ¬ v = none → W p l e R s m args below meth c H locs cells slots Q (F0 m (pc + 3) ls rest)) : W p l e R s m args below meth c H locs cells slots Q (F0 m pc ls (va_rf (v.map g) :: rest)) := by
  cases v with
  | none => exact lv_ifnullN hexec hb hdg ht (kt rfl)
  | some a => exact lv_ifnull hexec hb hdg (kf (fun h => by cases h))
/-- the number on top, by another name -/
theorem sr_top {x y : Int32} (h : x = y) (k : W p l e R s m args below meth c H locs cells slots Q (F0 m pc ls (.int y :: rest))) : W p l e R s m args below meth c H locs cells slots Q (F0 m pc ls (.int x :: rest)) := by rw [h]; exact k
end SNUL
theorem cf_0 : fk 0 = 0 ∧ cls[fc 0]? = some (R6, T6, 15) ∧ fl 0 = 15 := ⟨rfl, rfl, rfl⟩
theorem cf_5 : fk 5 = 0 ∧ cls[fc 5]? = some (R4, T4, 7) ∧ fl 5 = 7 := ⟨rfl, rfl, rfl⟩
theorem cf_6 : fk 6 = 0 ∧ cls[fc 6]? = some (R2, T2, 3) ∧ fl 6 = 3 := ⟨rfl, rfl, rfl⟩
theorem cf_12 : fk 12 = 0 ∧ cls[fc 12]? = some (R5, T5, 4) ∧ fl 12 = 4 := ⟨rfl, rfl, rfl⟩
theorem cf_13 : fk 13 = 0 ∧ cls[fc 13]? = some (R1, T1, 3) ∧ fl 13 = 3 := ⟨rfl, rfl, rfl⟩
theorem cf_14 : fk 14 = 0 ∧ cls[fc 14]? = some (R3, T3, 7) ∧ fl 14 = 7 := ⟨rfl, rfl, rfl⟩
theorem cf_15 : fk 15 = 0 ∧ cls[fc 15]? = some (R0, T0, 6) ∧ fl 15 = 6 := ⟨rfl, rfl, rfl⟩
theorem cf_20 : fk 20 = 0 ∧ cls[fc 20]? = some (R7, T7, 39) ∧ fl 20 = 39 := ⟨rfl, rfl, rfl⟩
