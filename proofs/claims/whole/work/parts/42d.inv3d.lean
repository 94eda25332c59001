/-! lots -/
/-- p lots are expired -/
def fgP (l : Int) (E : Nat → Int32) (now : Int) (p : Nat) : Prop := (p : Int) ≤ l ∧ (∀ k : Nat, k < p → (E k).toInt ≤ now) ∧ ((p : Int) < l → now < (E p).toInt)
theorem firstG_v {S A : sS} {G : sG} {b : Nat} {x : Int32} (hl : 0 ≤ (S 15 b 3).toInt ∧ (S 15 b 3).toInt ≤ 6) : ∀ (m r : Nat) (j : Nat), (j : Int) + m = (S 15 b 3).toInt → m < r → (∀ k : Nat, k < j → (A 16 b k).toInt ≤ x.toInt) → ∃ p : Nat, V0_firstGiven_2 G b x r S A j = nI p ∧ fgP (S 15 b 3).toInt (A 16 b) x.toInt p := by
  intro m
  induction m with
  | zero =>
    intro r j h1 h2 h3
    obtain ⟨r, rfl⟩ : ∃ q, r = q + 1 := ⟨r - 1, by omega⟩
    have e := nI_toInt (n := j) (by omega)
    rw [V0_firstGiven_2, if_pos (Int32.le_iff_toInt_le.mpr (by omega))]
    exact ⟨j, rfl, by omega, h3, fun z => by omega⟩
  | succ m ih =>
    intro r j h1 h2 h3
    obtain ⟨r, rfl⟩ : ∃ q, r = q + 1 := ⟨r - 1, by omega⟩
    have e := nI_toInt (n := j) (by omega)
    rw [V0_firstGiven_2, if_neg (fun z => by have := Int32.le_iff_toInt_le.mp z; omega)]
    by_cases c : x < A 16 b j
    · rw [if_pos c]
      exact ⟨j, rfl, by omega, h3, fun _ => lt_i c⟩
    · rw [if_neg c]
      refine ih r (j + 1) (by omega) (by omega) (fun k hk => ?_)
      by_cases z : k = j
      · rw [z]; exact nlt_i c
      · exact h3 k (by omega)
theorem smg_p {E U : Nat → Int32} {l now : Int} {p : Nat} (hp : fgP l E now p) (hs : ∀ j k : Nat, j ≤ k → (k : Int) < l → (E j).toInt ≤ (E k).toInt) : ∀ (m a : Nat), (a : Int) + m = l → smg E U now a m = if a ≤ p then sm U p ((l - p).toNat) else sm U a m := by
  intro m
  induction m with
  | zero =>
    intro a h
    have hq := hp.1
    split
    · rw [show (l - p).toNat = 0 by omega]; rfl
    · rfl
  | succ m ih =>
    intro a h
    rw [smg, ih (a + 1) (by omega)]
    obtain ⟨p1, p2, p3⟩ := hp
    by_cases c : a < p
    · rw [if_pos (p2 a c), if_pos (by omega), if_pos (by omega)]; omega
    · have q1 := p3 (by omega)
      have q2 := hs p a (by omega) (by omega)
      rw [if_neg (show ¬ (E a).toInt ≤ now by omega), if_neg (show ¬ a + 1 ≤ p by omega)]
      by_cases d : a ≤ p
      · have e : a = p := by omega
        subst e
        rw [if_pos d, show (l - (a : Int)).toNat = m + 1 by omega, sm]
      · rw [if_neg d, sm]
