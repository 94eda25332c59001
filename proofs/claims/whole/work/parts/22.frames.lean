/-! what a bin's writers leave as it was -/
def frB (b : Nat) (S A S1 A1 : sS) : Prop := (∀ f n k, ¬ (f = 15 ∧ k = 3 ∧ n = b) → S1 f n k = S f n k) ∧ (∀ f n i, ¬ ((f = 16 ∨ f = 17) ∧ n = b) → A1 f n i = A f n i)
theorem frB.rf {b : Nat} {S A : sS} : frB b S A S A := ⟨fun _ _ _ _ => rfl, fun _ _ _ _ => rfl⟩
theorem frB.tr {b : Nat} {S A S1 A1 S2 A2 : sS} (h : frB b S A S1 A1) (g : frB b S1 A1 S2 A2) : frB b S A S2 A2 := ⟨fun f n k q => (g.1 f n k q).trans (h.1 f n k q), fun f n k q => (g.2 f n k q).trans (h.2 f n k q)⟩
theorem frB.l {b : Nat} {S A : sS} {v : Int32} : frB b S A (up3 S 15 b 3 v) A := ⟨fun _ _ _ h => up3_n h, fun _ _ _ _ => rfl⟩
theorem frB.e {b j : Nat} {S A : sS} {v : Int32} : frB b S A S (up3 A 16 b j v) := ⟨fun _ _ _ _ => rfl, fun _ _ _ h => up3_n (fun q => h ⟨Or.inl q.1, q.2.2⟩)⟩
theorem frB.u {b j : Nat} {S A : sS} {v : Int32} : frB b S A S (up3 A 17 b j v) := ⟨fun _ _ _ _ => rfl, fun _ _ _ h => up3_n (fun q => h ⟨Or.inr q.1, q.2.2⟩)⟩
theorem addLot15_fr {G : sG} {b : Nat} {x1 x2 : Int32} : ∀ (r : Nat) (S A : sS) (j : Nat), frB b S A (O0_addLot_15 G b x1 x2 r S A j).1 (O0_addLot_15 G b x1 x2 r S A j).2 := by
  intro r
  induction r with
  | zero => intro S A j; exact frB.rf
  | succ r ih =>
    intro S A j
    rw [O0_addLot_15]
    split
    · exact (frB.e.tr frB.u).tr frB.l
    · split
      · exact (frB.e.tr frB.u).tr frB.l
      · exact (frB.e.tr frB.u).tr (ih _ _ _)
theorem addLot_fr {S A : sS} {G : sG} {b : Nat} {x1 x2 : Int32} : frB b S A (O0_addLot S A G b x1 x2).1 (O0_addLot S A G b x1 x2).2 := by
  unfold O0_addLot
  split
  · exact addLot15_fr _ _ _ _
  · exact frB.rf
theorem drop4_fr {G : sG} {b : Nat} : ∀ (r : Nat) (S A : sS) (i j : Nat), frB b S A (O0_dropEmptyLots_4 G b r S A i j).1 (O0_dropEmptyLots_4 G b r S A i j).2 := by
  intro r
  induction r with
  | zero => intro S A i j; exact frB.rf
  | succ r ih =>
    intro S A i j
    rw [O0_dropEmptyLots_4]
    split
    · exact frB.l
    · split
      · exact ih _ _ _ _
      · exact (frB.e.tr frB.u).tr (ih _ _ _ _)
theorem drop_fr {S A : sS} {G : sG} {b : Nat} : frB b S A (O0_dropEmptyLots S A G b).1 (O0_dropEmptyLots S A G b).2 := drop4_fr _ _ _ _ _
theorem remove5_fr {G : sG} {b : Nat} {x1 x2 : Int32} : ∀ (r : Nat) (S A : sS) (z : Int32) (j : Nat), frB b S A (O0_remove_5 G b x1 x2 r S A z j).1 (O0_remove_5 G b x1 x2 r S A z j).2 := by
  intro r
  induction r with
  | zero => intro S A z j; exact frB.rf
  | succ r ih =>
    intro S A z j
    rw [O0_remove_5]
    split
    · exact drop_fr
    · exact frB.u.tr (ih _ _ _ _)
theorem remove_fr {S A : sS} {G : sG} {b : Nat} {x1 x2 : Int32} : frB b S A (O0_remove S A G b x1 x2).1 (O0_remove S A G b x1 x2).2 := remove5_fr _ _ _ _ _
theorem addLot15_l {G : sG} {b : Nat} {x1 x2 : Int32} : ∀ (r : Nat) (S A : sS) (j : Nat), j < r → (O0_addLot_15 G b x1 x2 r S A j).1 15 b 3 = S 15 b 3 + 1 := by
  intro r
  induction r with
  | zero => intro S A j h; omega
  | succ r ih =>
    intro S A j h
    rw [O0_addLot_15]
    by_cases c1 : nI j ≤ 0
    · rw [if_pos c1]; exact up3_s
    · rw [if_neg c1]
      split
      · exact up3_s
      · have hj : 0 < j := by
          rcases Nat.eq_zero_or_pos j with e | e
          · subst e; exact absurd (by decide) c1
          · exact e
        exact ih _ _ _ (by omega)
theorem addLot_l {S A : sS} {G : sG} {b : Nat} {x1 x2 : Int32} (hL : 0 ≤ (S 15 b 3).toInt ∧ (S 15 b 3).toInt ≤ 6) : 0 ≤ ((O0_addLot S A G b x1 x2).1 15 b 3).toInt ∧ ((O0_addLot S A G b x1 x2).1 15 b 3).toInt ≤ 6 := by
  unfold O0_addLot
  split
  · rename_i c
    have k := lt_i c
    have l6 : (6 : Int32).toInt = 6 := rfl
    have l1 : (1 : Int32).toInt = 1 := rfl
    have hc := cl_i hL.1
    rw [addLot15_l _ _ _ _ (by omega)]
    have a := add_i (x := S 15 b 3) (y := 1) (by omega) (by omega)
    omega
  · exact hL
theorem drop4_l {G : sG} {b : Nat} : ∀ (r : Nat) (S A : sS) (i j : Nat), i ≤ j → j ≤ 6 → 0 ≤ (S 15 b 3).toInt ∧ (S 15 b 3).toInt ≤ 6 → 0 ≤ ((O0_dropEmptyLots_4 G b r S A i j).1 15 b 3).toInt ∧ ((O0_dropEmptyLots_4 G b r S A i j).1 15 b 3).toInt ≤ 6 := by
  intro r
  induction r with
  | zero => intro S A i j h1 h2 h3; exact h3
  | succ r ih =>
    intro S A i j h1 h2 h3
    have a := nI_toInt (n := i) (by omega)
    have a2 := nI_toInt (n := j) (by omega)
    rw [O0_dropEmptyLots_4]
    by_cases c : S 15 b 3 ≤ nI j
    · rw [if_pos c]
      show 0 ≤ (up3 S 15 b 3 (nI i) 15 b 3).toInt ∧ (up3 S 15 b 3 (nI i) 15 b 3).toInt ≤ 6
      rw [up3_s]; omega
    · rw [if_neg c]
      have k := nle_i c
      split
      · exact ih _ _ _ _ (by omega) (by omega) h3
      · exact ih _ _ _ _ (by omega) (by omega) h3
theorem remove5_l {G : sG} {b : Nat} {x1 x2 : Int32} : ∀ (r : Nat) (S A : sS) (z : Int32) (j : Nat), 0 ≤ (S 15 b 3).toInt ∧ (S 15 b 3).toInt ≤ 6 → 0 ≤ ((O0_remove_5 G b x1 x2 r S A z j).1 15 b 3).toInt ∧ ((O0_remove_5 G b x1 x2 r S A z j).1 15 b 3).toInt ≤ 6 := by
  intro r
  induction r with
  | zero => intro S A z j h; exact h
  | succ r ih =>
    intro S A z j h
    rw [O0_remove_5]
    split
    · exact drop4_l 7 _ _ 0 0 (Nat.le_refl _) (by omega) h
    · exact ih _ _ _ _ h
theorem remove_l {S A : sS} {G : sG} {b : Nat} {x1 x2 : Int32} (hL : 0 ≤ (S 15 b 3).toInt ∧ (S 15 b 3).toInt ≤ 6) : 0 ≤ ((O0_remove S A G b x1 x2).1 15 b 3).toInt ∧ ((O0_remove S A G b x1 x2).1 15 b 3).toInt ≤ 6 := remove5_l _ _ _ _ _ hL
theorem correctTo_fr {S A : sS} {G : sG} {b : Nat} {x1 x2 : Int32} : frB b (up3 (up3 S 15 b 4 (x1 - (V0_book S A G b))) 15 b 5 1) A (O0_correctTo S A G b x1 x2).1 (O0_correctTo S A G b x1 x2).2 := by
  unfold O0_correctTo O0_correctTo_58 O0_correctTo_32
  split
  · split
    · exact frB.rf
    · split
      · exact addLot_fr
      · exact frB.u
  · exact remove_fr
theorem correctTo_l {S A : sS} {G : sG} {b : Nat} {x1 x2 : Int32} (hL : 0 ≤ (S 15 b 3).toInt ∧ (S 15 b 3).toInt ≤ 6) : 0 ≤ ((O0_correctTo S A G b x1 x2).1 15 b 3).toInt ∧ ((O0_correctTo S A G b x1 x2).1 15 b 3).toInt ≤ 6 := by
  unfold O0_correctTo O0_correctTo_58 O0_correctTo_32
  split
  · split
    · exact hL
    · split
      · exact addLot_l (S := up3 (up3 S 15 b 4 (x1 - (V0_book S A G b))) 15 b 5 1) hL
      · exact hL
  · exact remove_l (S := up3 (up3 S 15 b 4 (x1 - (V0_book S A G b))) 15 b 5 1) hL
/-- all bins' lot counts stay in range -/
theorem frB.lo {b : Nat} {S A S1 A1 : sS} (h : frB b S A S1 A1) (hl : ∀ i, i < 64 → 0 ≤ (S 15 i 3).toInt ∧ (S 15 i 3).toInt ≤ 6) (hb : 0 ≤ (S1 15 b 3).toInt ∧ (S1 15 b 3).toInt ≤ 6) : ∀ i, i < 64 → 0 ≤ (S1 15 i 3).toInt ∧ (S1 15 i 3).toInt ≤ 6 := fun i hi => by
  by_cases e : i = b
  · subst e; exact hb
  · rw [h.1 15 i 3 (fun q => e q.2.2)]; exact hl i hi
