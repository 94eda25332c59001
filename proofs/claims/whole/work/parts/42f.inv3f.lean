/-! lots -/
section BINS
variable {n : Nat} {S A : sS} {G : sG} {T B : sS} {G1 : sG}
/-- all that is to be known of a bin's sums -/
theorem bin_v (h : rR n S A G T B) {x : Int32} (hx : 0 ≤ x.toInt ∧ x.toInt < 64) : ∃ (l p : Nat) (bk gv : Int32), (S 15 x.toNatClampNeg 3).toInt = l ∧ l ≤ 6 ∧ p ≤ l ∧ V0_firstGiven S A G x.toNatClampNeg (S 0 0 8) = nI p ∧ fgP (S 15 x.toNatClampNeg 3).toInt (A 16 x.toNatClampNeg) (S 0 0 8).toInt p ∧ V0_book S A G x.toNatClampNeg = bk ∧ V7_bookOf T B G1 x = bk ∧ V0_given S A G x.toNatClampNeg (S 0 0 8) = gv ∧ V7_givableOf T B G1 x = gv ∧ bk.toInt = sm (A 17 x.toNatClampNeg) 0 l ∧ gv.toInt = sm (A 17 x.toNatClampNeg) p (l - p) ∧ ((0 ≤ bk.toInt ∧ bk.toInt ≤ 60000) ∧ (0 ≤ gv.toInt ∧ gv.toInt ≤ 60000)) ∧ (gv.toInt ≤ 0 ↔ l ≤ p) ∧ (bk.toInt ≤ gv.toInt ↔ p = 0) ∧ (p < l → V7_firstOf T B G1 x = A 16 x.toNatClampNeg p) := by
  obtain ⟨-, e36, -, -, -, ⟨l0, l6⟩, lU, lE⟩ := h.2.2.2.1 x.toNatClampNeg (cl_lt hx.1 hx.2)
  have hlu : lotU (S 15 x.toNatClampNeg 3).toInt (A 17 x.toNatClampNeg) := ⟨⟨l0, l6⟩, fun k hk => (lU k hk).2.2⟩
  have hlb : lotU (B 36 0 x.toNatClampNeg).toInt (fun k => B 37 0 (6 * x.toNatClampNeg + k)) := by
    rw [e36]
    refine ⟨⟨l0, l6⟩, fun k hk => ?_⟩
    show 0 < (B 37 0 (6 * x.toNatClampNeg + k)).toInt ∧ (B 37 0 (6 * x.toNatClampNeg + k)).toInt ≤ 10000
    have := lU k hk
    rw [show B 37 0 (6 * x.toNatClampNeg + k) = A 17 x.toNatClampNeg k from this.1]
    exact this.2.2
  obtain ⟨l, hl⟩ : ∃ l : Nat, (S 15 x.toNatClampNeg 3).toInt = l := ⟨(S 15 x.toNatClampNeg 3).toInt.toNat, by omega⟩
  have hlu' := hlu.2
  have h0 : (0 : Int32).toInt = 0 := by decide
  obtain ⟨p, hp, hfg⟩ := firstG_v (S := S) (A := A) (G := G) (b := x.toNatClampNeg) (x := S 0 0 8) ⟨l0, l6⟩ l 7 0 (by omega) (by omega) (fun k hk => by omega)
  have hfg' := hfg
  obtain ⟨f1, f2, f3⟩ := hfg
  have hpl : p ≤ l := by omega
  have s1 := sm_b hlu' l 0 (by omega)
  have s2 := sm_b hlu' (l - p) p (by omega)
  have s3 := sm_b hlu' p 0 (by omega)
  have s4 := sm_add (U := A 17 x.toNatClampNeg) p (l - p) 0
  rw [show p + (l - p) = l by omega, Nat.zero_add] at s4
  obtain ⟨bk, hbk⟩ : ∃ v, V0_book S A G x.toNatClampNeg = v := ⟨_, rfl⟩
  obtain ⟨gv, hgv⟩ : ∃ v, V0_given S A G x.toNatClampNeg (S 0 0 8) = v := ⟨_, rfl⟩
  have b1 : bk.toInt = sm (A 17 x.toNatClampNeg) 0 l := by
    rw [← hbk]
    exact (sumFrom_v (G := G) (x1 := 0) hlu l 7 0 0 (by omega) (by omega) (by decide) (by decide)).trans (by rw [h0, Int.zero_add])
  have g1 : gv.toInt = sm (A 17 x.toNatClampNeg) p (l - p) := by
    rw [← hgv]
    unfold V0_given V0_sumFrom
    rw [show V0_firstGiven S A G x.toNatClampNeg (S 0 0 8) = nI p from hp, nI_clamp (by omega)]
    exact (sumFrom_v (G := G) (x1 := nI p) hlu (l - p) 7 0 p (by omega) (by omega) (by decide) (by rw [h0]; omega)).trans (by rw [h0, Int.zero_add])
  have b2 : V7_bookOf T B G1 x = bk := by
    refine Int32.toInt_inj.mp ?_
    rw [b1]
    refine (bookOf_v (S := T) (G := G1) hlb l 7 0 0 (by rw [e36]; omega) (by omega) (by decide) (by decide)).trans ?_
    rw [h0, Int.zero_add]
    exact sm_cg l 0 (fun k _ hk => (lU k (by omega)).1)
  have c2 : smg (fun k => B 38 0 (6 * x.toNatClampNeg + k)) (fun k => B 37 0 (6 * x.toNatClampNeg + k)) (T 20 0 0).toInt 0 l = smg (A 16 x.toNatClampNeg) (A 17 x.toNatClampNeg) (S 0 0 8).toInt 0 l := by
    rw [h.1.1]
    exact smg_cg l 0 (fun k _ hk => ⟨(lU k (by omega)).1, (lU k (by omega)).2.1⟩)
  have c3 := smg_p (U := A 17 x.toNatClampNeg) hfg' lE l 0 (by omega)
  rw [if_pos (Nat.zero_le _), hl, show ((l : Int) - p).toNat = l - p by omega] at c3
  have g2 : V7_givableOf T B G1 x = gv := by
    refine Int32.toInt_inj.mp ?_
    rw [g1]
    refine (givOf_v (S := T) (G := G1) hlb l 7 0 0 (by rw [e36]; omega) (by omega) (by decide) (by decide)).trans ?_
    rw [h0, Int.zero_add, c2, c3]
  clear c2 c3
  refine ⟨l, p, bk, gv, hl, by omega, hpl, hp, hfg', hbk, b2, hgv, g2, b1, g1, ⟨by omega, by omega⟩, by omega, by omega, fun hpl => ?_⟩
  have hfb : fgP (l : Int) (fun k => B 38 0 (6 * x.toNatClampNeg + k)) (S 0 0 8).toInt p := by
    refine ⟨by omega, fun k hk => ?_, fun hk => ?_⟩
    · show (B 38 0 (6 * x.toNatClampNeg + k)).toInt ≤ _
      rw [show B 38 0 (6 * x.toNatClampNeg + k) = A 16 x.toNatClampNeg k from (lU k (by omega)).2.1]
      exact f2 k hk
    · show _ < (B 38 0 (6 * x.toNatClampNeg + p)).toInt
      rw [show B 38 0 (6 * x.toNatClampNeg + p) = A 16 x.toNatClampNeg p from (lU p (by omega)).2.1]
      exact f3 (by omega)
  have e1 := sub1_i (x := B 36 0 x.toNatClampNeg) (by rw [e36]; omega)
  have r := firstOf_v (T := T) (G := G1) hx hfb (by omega) (fun j k hjk hk => by
    rw [show B 38 0 (6 * x.toNatClampNeg + k) = A 16 x.toNatClampNeg k from (lU k (by omega)).2.1, show B 38 0 (6 * x.toNatClampNeg + j) = A 16 x.toNatClampNeg j from (lU j (by omega)).2.1]
    exact lE j k hjk (by omega)) (by rw [h.1.1]) l 7 0 (B 36 0 x.toNatClampNeg - 1) (by omega) (by omega) (by rw [e1, e36]; omega)
  rw [show V7_firstOf T B G1 x = V7_firstOf_11 G1 x 7 T B 0 (B 36 0 x.toNatClampNeg - 1) from rfl, r, if_pos hpl]
  exact (lU p (by omega)).2.1
end BINS
