/-! the law's loop, over any invariant Inv of the two systems: what a call must keep (st_ ..), a walk a case (lc_ ..) -/
def XI (X : Nat → Nat → Prop) (G : sG) : Prop := xC X G ∧ xR X ∧ s_L X G ∧ (∀ n, X 12 n → ¬ G 1 n = none) ∧ (∀ n, X 13 n → ¬ G 2 n = none) ∧ (∀ n, X 14 n → ¬ G 4 n = none) ∧ (∀ n1, X 1 n1 → n1 = 0) ∧ (∀ n1, X 2 n1 → n1 = 0) ∧ (∀ n1, X 4 n1 → n1 = 0)
theorem fr_none {f : Nat} (hf : f = 12 ∨ f = 13 ∨ f = 14) (k : Nat) : fr f k = 0 := by rcases hf with rfl | rfl | rfl <;> rfl
theorem XI.grow {X : Nat → Nat → Prop} {G : sG} (h : XI X G) {fm ar : Nat} (hfa : (fm = 12 ∧ ar = 1) ∨ (fm = 13 ∧ ar = 2) ∨ (fm = 14 ∧ ar = 4)) (u : Option Nat) : XI (aX X fm u) (aG G ar u) := by
  cases u with
  | none => exact h
  | some n =>
    have hf3 : fm = 12 ∨ fm = 13 ∨ fm = 14 := by omega
    obtain ⟨⟨x1, x2, x3, x4, x5, x6, x7, x8⟩, hr, ⟨l1, l2⟩, g12, g13, g14, u1, u2, u4⟩ := h
    have old : ∀ f i, ¬ (f = ar ∧ i = n) → up2 G ar n (some n) f i = G f i := fun f i z => up2_n z
    have nw : up2 G ar n (some n) ar n = some n := up2_s
    have hG : ∀ f i m, up2 G ar n (some n) f i = some m → (f = ar ∧ i = n ∧ m = n) ∨ G f i = some m := fun f i m q => by
      by_cases z : f = ar ∧ i = n
      · obtain ⟨rfl, rfl⟩ := z
        rw [nw] at q; cases q; exact Or.inl ⟨rfl, rfl, rfl⟩
      · rw [old f i z] at q; exact Or.inr q
    have hN : ∀ f i, ¬ G f i = none → ¬ up2 G ar n (some n) f i = none := fun f i q => by
      by_cases z : f = ar ∧ i = n
      · obtain ⟨rfl, rfl⟩ := z
        rw [nw]; exact fun w => by cases w
      · rw [old f i z]; exact q
    refine ⟨⟨fun f z => Or.inl (x1 f z), fun i z => Or.inl (x2 i z), fun i z => ⟨Or.inl (x3 i z).1, Or.inl (x3 i z).2.1, Or.inl (x3 i z).2.2⟩, fun i m q => ?_, fun i m q => ?_, fun i m q => ?_, fun i z => ?_, fun i z => ?_⟩, fun f z => Or.inl (hr f z), ⟨fun f n1 k a1 a2 a3 a4 => ?_, fun f n1 i m a1 a2 a3 a4 => ?_⟩, fun n1 z => ?_, fun n1 z => ?_, fun n1 z => ?_, fun n1 z => ?_, fun n1 z => ?_, fun n1 z => ?_⟩
    · rcases hG 1 i m q with ⟨e1, e2, e3⟩ | q
      · exact ⟨by omega, Or.inr ⟨by omega, e3⟩⟩
      · exact ⟨(x4 i m q).1, Or.inl (x4 i m q).2⟩
    · rcases hG 2 i m q with ⟨e1, e2, e3⟩ | q
      · exact ⟨by omega, Or.inr ⟨by omega, e3⟩⟩
      · exact ⟨(x5 i m q).1, Or.inl (x5 i m q).2⟩
    · rcases hG 4 i m q with ⟨e1, e2, e3⟩ | q
      · exact ⟨by omega, Or.inr ⟨by omega, e3⟩⟩
      · exact ⟨(x6 i m q).1, Or.inl (x6 i m q).2⟩
    · exact (old 3 i (by omega)).trans (x7 i z)
    · exact (old 10 i (by omega)).trans (x8 i z)
    · rcases a1 with a1 | ⟨rfl, rfl⟩
      · exact Or.inl (l1 f n1 k a1 a2 a3 a4)
      · exact absurd (fr_none hf3 k) a4
    · rcases a1 with a1 | ⟨rfl, rfl⟩
      · rcases hG f i m a4 with ⟨e1, e2, e3⟩ | q
        · subst e1
          refine Or.inr ⟨?_, e3⟩
          rcases hfa with ⟨rfl, rfl⟩ | ⟨rfl, rfl⟩ | ⟨rfl, rfl⟩ <;> rfl
        · exact Or.inl (l2 f n1 i m a1 a2 a3 q)
      · rcases hf3 with rfl | rfl | rfl <;> exact absurd a2 (by decide)
    · rcases z with z | ⟨e1, e2⟩
      · exact hN 1 n1 (g12 n1 z)
      · have e3 : ar = 1 := by omega
        subst e3 e2
        show ¬ up2 G 1 n1 (some n1) 1 n1 = none
        rw [up2_s]; exact fun w => by cases w
    · rcases z with z | ⟨e1, e2⟩
      · exact hN 2 n1 (g13 n1 z)
      · have e3 : ar = 2 := by omega
        subst e3 e2
        show ¬ up2 G 2 n1 (some n1) 2 n1 = none
        rw [up2_s]; exact fun w => by cases w
    · rcases z with z | ⟨e1, e2⟩
      · exact hN 4 n1 (g14 n1 z)
      · have e3 : ar = 4 := by omega
        subst e3 e2
        show ¬ up2 G 4 n1 (some n1) 4 n1 = none
        rw [up2_s]; exact fun w => by cases w
    · exact z.elim (u1 n1) (fun z => by omega)
    · exact z.elim (u2 n1) (fun z => by omega)
    · exact z.elim (u4 n1) (fun z => by omega)
def zb (x : Int32) : Int32 := if x = 0 then 0 else 1
theorem zb_01 (x : Int32) : zb x = 0 ∨ zb x = 1 := by unfold zb; split <;> simp
def st_user (Inv : Nat → sS → sS → sG → Prop) : Prop := ∀ (n : Nat) (S A : sS) (G : sG) (x1 : Int32) (x2 : Int32) (x3 : Int32), Inv n S A G → n < 512 → (O6_user S A G x1 x2 x3).1 = (O7_user (O6_user S A G x1 x2 x3).2.1 (O6_user S A G x1 x2 x3).2.2.1 (aG G 1 (O6_user S A G x1 x2 x3).2.2.2) x1 x2 x3).1 ∧ Inv (n + 1) (O7_user (O6_user S A G x1 x2 x3).2.1 (O6_user S A G x1 x2 x3).2.2.1 (aG G 1 (O6_user S A G x1 x2 x3).2.2.2) x1 x2 x3).2.1 (O7_user (O6_user S A G x1 x2 x3).2.1 (O6_user S A G x1 x2 x3).2.2.1 (aG G 1 (O6_user S A G x1 x2 x3).2.2.2) x1 x2 x3).2.2 (aG G 1 (O6_user S A G x1 x2 x3).2.2.2)
def st_item (Inv : Nat → sS → sS → sG → Prop) : Prop := ∀ (n : Nat) (S A : sS) (G : sG) (x1 : Int32) (x2 : Int32) (x3 : Int32), Inv n S A G → n < 512 → (x2 = 0 ∨ x2 = 1) → (O6_item S A G x1 x2 x3).1 = (O7_item (O6_item S A G x1 x2 x3).2.1 (O6_item S A G x1 x2 x3).2.2.1 (aG G 2 (O6_item S A G x1 x2 x3).2.2.2) x1 x2 x3).1 ∧ Inv (n + 1) (O7_item (O6_item S A G x1 x2 x3).2.1 (O6_item S A G x1 x2 x3).2.2.1 (aG G 2 (O6_item S A G x1 x2 x3).2.2.2) x1 x2 x3).2.1 (O7_item (O6_item S A G x1 x2 x3).2.1 (O6_item S A G x1 x2 x3).2.2.1 (aG G 2 (O6_item S A G x1 x2 x3).2.2.2) x1 x2 x3).2.2 (aG G 2 (O6_item S A G x1 x2 x3).2.2.2)
def st_login (Inv : Nat → sS → sS → sG → Prop) : Prop := ∀ (n : Nat) (S A : sS) (G : sG) (x1 : Int32) (x2 : Int32), Inv n S A G → n < 512 → (O6_login S A G x1 x2).1 = (O7_login (O6_login S A G x1 x2).2.1 (O6_login S A G x1 x2).2.2 G x1 x2).1 ∧ Inv (n + 1) (O7_login (O6_login S A G x1 x2).2.1 (O6_login S A G x1 x2).2.2 G x1 x2).2.1 (O7_login (O6_login S A G x1 x2).2.1 (O6_login S A G x1 x2).2.2 G x1 x2).2.2 G
def st_logout (Inv : Nat → sS → sS → sG → Prop) : Prop := ∀ (n : Nat) (S A : sS) (G : sG), Inv n S A G → n < 512 → (O6_logout S A G ).1 = (O7_logout (O6_logout S A G ).2.1 (O6_logout S A G ).2.2 G ).1 ∧ Inv (n + 1) (O7_logout (O6_logout S A G ).2.1 (O6_logout S A G ).2.2 G ).2.1 (O7_logout (O6_logout S A G ).2.1 (O6_logout S A G ).2.2 G ).2.2 G
def st_witness (Inv : Nat → sS → sS → sG → Prop) : Prop := ∀ (n : Nat) (S A : sS) (G : sG) (x1 : Int32) (x2 : Int32), Inv n S A G → n < 512 → (O6_witness S A G x1 x2).1 = (O7_witness (O6_witness S A G x1 x2).2.1 (O6_witness S A G x1 x2).2.2 G x1 x2).1 ∧ Inv (n + 1) (O7_witness (O6_witness S A G x1 x2).2.1 (O6_witness S A G x1 x2).2.2 G x1 x2).2.1 (O7_witness (O6_witness S A G x1 x2).2.1 (O6_witness S A G x1 x2).2.2 G x1 x2).2.2 G
def st_tick (Inv : Nat → sS → sS → sG → Prop) : Prop := ∀ (n : Nat) (S A : sS) (G : sG) (x1 : Int32), Inv n S A G → n < 512 → (O6_tick S A G x1).1 = (O7_tick (O6_tick S A G x1).2.1 (O6_tick S A G x1).2.2 G x1).1 ∧ Inv (n + 1) (O7_tick (O6_tick S A G x1).2.1 (O6_tick S A G x1).2.2 G x1).2.1 (O7_tick (O6_tick S A G x1).2.1 (O6_tick S A G x1).2.2 G x1).2.2 G
def st_order (Inv : Nat → sS → sS → sG → Prop) : Prop := ∀ (n : Nat) (S A : sS) (G : sG) (x1 : Int32) (x2 : Int32) (x3 : Int32) (x4 : Int32), Inv n S A G → n < 512 → (0 ≤ (S 0 0 13).toInt ∧ (S 0 0 13).toInt ≤ 60) ∧ (∀ i : Nat, (S 0 0 13).toInt ≤ (i : Int) → G 4 i = none) ∧ (((O6_order S A G x1 x2 x3 x4).2.1 20 0 6).toInt < 16) ∧ (0 ≤ ((O6_order S A G x1 x2 x3 x4).2.1 20 0 20).toInt ∧ ((O6_order S A G x1 x2 x3 x4).2.1 20 0 20).toInt ≤ 60) ∧ (O6_order S A G x1 x2 x3 x4).1 = (O7_order (O6_order S A G x1 x2 x3 x4).2.1 (O6_order S A G x1 x2 x3 x4).2.2.1 (aG G 4 (O6_order S A G x1 x2 x3 x4).2.2.2) x1 x2 x3 x4).1 ∧ Inv (n + 1) (O7_order (O6_order S A G x1 x2 x3 x4).2.1 (O6_order S A G x1 x2 x3 x4).2.2.1 (aG G 4 (O6_order S A G x1 x2 x3 x4).2.2.2) x1 x2 x3 x4).2.1 (O7_order (O6_order S A G x1 x2 x3 x4).2.1 (O6_order S A G x1 x2 x3 x4).2.2.1 (aG G 4 (O6_order S A G x1 x2 x3 x4).2.2.2) x1 x2 x3 x4).2.2 (aG G 4 (O6_order S A G x1 x2 x3 x4).2.2.2)
def st_cancel (Inv : Nat → sS → sS → sG → Prop) : Prop := ∀ (n : Nat) (S A : sS) (G : sG) (x1 : Int32), Inv n S A G → n < 512 → (0 ≤ (S 0 0 13).toInt ∧ (S 0 0 13).toInt ≤ 60) ∧ (∀ i : Nat, (i : Int) < (S 0 0 13).toInt → ¬ G 4 i = none) ∧ (((O6_cancel S A G x1).2.1 20 0 6).toInt < 16) ∧ (0 ≤ ((O6_cancel S A G x1).2.1 20 0 20).toInt ∧ ((O6_cancel S A G x1).2.1 20 0 20).toInt ≤ 60) ∧ (O6_cancel S A G x1).1 = (O7_cancel (O6_cancel S A G x1).2.1 (O6_cancel S A G x1).2.2 G x1).1 ∧ Inv (n + 1) (O7_cancel (O6_cancel S A G x1).2.1 (O6_cancel S A G x1).2.2 G x1).2.1 (O7_cancel (O6_cancel S A G x1).2.1 (O6_cancel S A G x1).2.2 G x1).2.2 G
def st_begin (Inv : Nat → sS → sS → sG → Prop) : Prop := ∀ (n : Nat) (S A : sS) (G : sG) (x1 : Int32) (x2 : Int32), Inv n S A G → n < 512 → (∀ i, i < 64 → 0 ≤ (S 15 i 3).toInt ∧ (S 15 i 3).toInt ≤ 6) ∧ (0 ≤ (S 6 0 1).toInt ∧ (S 6 0 1).toInt ≤ 300) ∧ (0 ≤ (S 0 0 13).toInt ∧ (S 0 0 13).toInt ≤ 60) ∧ (∀ i : Nat, (i : Int) < (S 0 0 13).toInt → ¬ G 4 i = none) ∧ (((O6_begin S A G x1 x2).2.1 20 0 6).toInt < 16) ∧ (0 ≤ ((O6_begin S A G x1 x2).2.1 20 0 20).toInt ∧ ((O6_begin S A G x1 x2).2.1 20 0 20).toInt ≤ 60) ∧ (∀ i, i < 64 → 0 ≤ ((O6_begin S A G x1 x2).2.2 36 0 i).toInt ∧ ((O6_begin S A G x1 x2).2.2 36 0 i).toInt ≤ 6) ∧ (0 ≤ ((O6_begin S A G x1 x2).2.1 20 0 34).toInt ∧ ((O6_begin S A G x1 x2).2.1 20 0 34).toInt ≤ 300) ∧ (∀ i, i < 64 → ((O6_begin S A G x1 x2).2.2 35 0 i).toInt < 32) ∧ (∀ i, i < 60 → 0 ≤ ((O6_begin S A G x1 x2).2.2 42 0 i).toInt ∧ ((O6_begin S A G x1 x2).2.2 42 0 i).toInt < 32) ∧ (O6_begin S A G x1 x2).1 = (O7_begin (O6_begin S A G x1 x2).2.1 (O6_begin S A G x1 x2).2.2 G x1 x2).1 ∧ Inv (n + 1) (O7_begin (O6_begin S A G x1 x2).2.1 (O6_begin S A G x1 x2).2.2 G x1 x2).2.1 (O7_begin (O6_begin S A G x1 x2).2.1 (O6_begin S A G x1 x2).2.2 G x1 x2).2.2 G
def st_count (Inv : Nat → sS → sS → sG → Prop) : Prop := ∀ (n : Nat) (S A : sS) (G : sG) (x1 : Int32), Inv n S A G → n < 512 → (∀ i, i < 64 → 0 ≤ (S 15 i 3).toInt ∧ (S 15 i 3).toInt ≤ 6) ∧ (0 ≤ (S 6 0 1).toInt ∧ (S 6 0 1).toInt ≤ 300) ∧ (¬ S 5 0 0 = -1 → 0 ≤ (S 5 0 1).toInt ∧ (S 5 0 1).toInt < 64) ∧ (∀ i, i < 64 → 0 ≤ ((O6_count S A G x1).2.2 36 0 i).toInt ∧ ((O6_count S A G x1).2.2 36 0 i).toInt ≤ 6) ∧ (0 ≤ ((O6_count S A G x1).2.1 20 0 34).toInt ∧ ((O6_count S A G x1).2.1 20 0 34).toInt ≤ 300) ∧ (0 ≤ ((O6_count S A G x1).2.1 20 0 28).toInt ∧ ((O6_count S A G x1).2.1 20 0 28).toInt < 64) ∧ (O6_count S A G x1).1 = (O7_count (O6_count S A G x1).2.1 (O6_count S A G x1).2.2 G x1).1 ∧ Inv (n + 1) (O7_count (O6_count S A G x1).2.1 (O6_count S A G x1).2.2 G x1).2.1 (O7_count (O6_count S A G x1).2.1 (O6_count S A G x1).2.2 G x1).2.2 G
def st_amount (Inv : Nat → sS → sS → sG → Prop) : Prop := ∀ (n : Nat) (S A : sS) (G : sG) (x1 : Int32) (x2 : Int32) (x3 : Int32), Inv n S A G → n < 512 → (∀ i, i < 64 → 0 ≤ (S 15 i 3).toInt ∧ (S 15 i 3).toInt ≤ 6) ∧ (0 ≤ (S 6 0 1).toInt ∧ (S 6 0 1).toInt ≤ 300) ∧ (¬ S 5 0 0 = -1 → 0 ≤ (S 5 0 1).toInt ∧ (S 5 0 1).toInt < 64) ∧ (S 5 0 0 = 0 → (0 ≤ (S 5 0 2).toInt ∧ (S 5 0 2).toInt < 60) ∧ ¬ G 4 (S 5 0 2).toNatClampNeg = none) ∧ (∀ i, i < 64 → 0 ≤ ((O6_amount S A G x1 x2 x3).2.2 36 0 i).toInt ∧ ((O6_amount S A G x1 x2 x3).2.2 36 0 i).toInt ≤ 6) ∧ (0 ≤ ((O6_amount S A G x1 x2 x3).2.1 20 0 28).toInt ∧ ((O6_amount S A G x1 x2 x3).2.1 20 0 28).toInt < 64) ∧ ((O6_amount S A G x1 x2 x3).2.1 20 0 27 = 0 → 0 ≤ ((O6_amount S A G x1 x2 x3).2.1 20 0 29).toInt ∧ ((O6_amount S A G x1 x2 x3).2.1 20 0 29).toInt < 60) ∧ (0 ≤ ((O6_amount S A G x1 x2 x3).2.1 20 0 34).toInt ∧ ((O6_amount S A G x1 x2 x3).2.1 20 0 34).toInt ≤ 300) ∧ (0 ≤ V7_refusal (O6_amount S A G x1 x2 x3).2.1 (O6_amount S A G x1 x2 x3).2.2 G x1 x2 x3 → (O6_amount S A G x1 x2 x3).2.1 20 0 27 = 1 → ((O6_amount S A G x1 x2 x3).2.2 36 0 ((O6_amount S A G x1 x2 x3).2.1 20 0 28).toNatClampNeg).toInt < 6) ∧ (0 ≤ V7_refusal (O6_amount S A G x1 x2 x3).2.1 (O6_amount S A G x1 x2 x3).2.2 G x1 x2 x3 → ((O6_amount S A G x1 x2 x3).2.1 20 0 34).toInt < 300) ∧ (O6_amount S A G x1 x2 x3).1 = (O7_amount (O6_amount S A G x1 x2 x3).2.1 (O6_amount S A G x1 x2 x3).2.2 G x1 x2 x3).1 ∧ Inv (n + 1) (O7_amount (O6_amount S A G x1 x2 x3).2.1 (O6_amount S A G x1 x2 x3).2.2 G x1 x2 x3).2.1 (O7_amount (O6_amount S A G x1 x2 x3).2.1 (O6_amount S A G x1 x2 x3).2.2 G x1 x2 x3).2.2 G
def st_shut (Inv : Nat → sS → sS → sG → Prop) : Prop := ∀ (n : Nat) (S A : sS) (G : sG), Inv n S A G → n < 512 → (O6_shut S A G ).1 = (O7_shut (O6_shut S A G ).2.1 (O6_shut S A G ).2.2 G ).1 ∧ Inv (n + 1) (O7_shut (O6_shut S A G ).2.1 (O6_shut S A G ).2.2 G ).2.1 (O7_shut (O6_shut S A G ).2.1 (O6_shut S A G ).2.2 G ).2.2 G
def st_giveBack (Inv : Nat → sS → sS → sG → Prop) : Prop := ∀ (n : Nat) (S A : sS) (G : sG) (x1 : Int32) (x2 : Int32), Inv n S A G → n < 512 → (0 ≤ (S 6 0 1).toInt ∧ (S 6 0 1).toInt ≤ 300) ∧ (((O6_giveBack S A G x1 x2).2.1 20 0 6).toInt < 16) ∧ (0 ≤ ((O6_giveBack S A G x1 x2).2.1 20 0 34).toInt ∧ ((O6_giveBack S A G x1 x2).2.1 20 0 34).toInt ≤ 300) ∧ (O6_giveBack S A G x1 x2).1 = (O7_giveBack (O6_giveBack S A G x1 x2).2.1 (O6_giveBack S A G x1 x2).2.2 G x1 x2).1 ∧ Inv (n + 1) (O7_giveBack (O6_giveBack S A G x1 x2).2.1 (O6_giveBack S A G x1 x2).2.2 G x1 x2).2.1 (O7_giveBack (O6_giveBack S A G x1 x2).2.1 (O6_giveBack S A G x1 x2).2.2 G x1 x2).2.2 G
def st_reconcile (Inv : Nat → sS → sS → sG → Prop) : Prop := ∀ (n : Nat) (S A : sS) (G : sG), Inv n S A G → n < 512 → (0 ≤ (S 6 0 1).toInt ∧ (S 6 0 1).toInt ≤ 300) ∧ (((O6_reconcile S A G ).2.1 20 0 6).toInt < 16) ∧ (0 ≤ ((O6_reconcile S A G ).2.1 20 0 34).toInt ∧ ((O6_reconcile S A G ).2.1 20 0 34).toInt ≤ 300) ∧ (∀ i, i < 64 → ((O6_reconcile S A G ).2.2 35 0 i).toInt < 32) ∧ (O6_reconcile S A G ).1 = (O7_reconcile (O6_reconcile S A G ).2.1 (O6_reconcile S A G ).2.2 G ).1 ∧ Inv (n + 1) (O7_reconcile (O6_reconcile S A G ).2.1 (O6_reconcile S A G ).2.2 G ).2.1 (O7_reconcile (O6_reconcile S A G ).2.1 (O6_reconcile S A G ).2.2 G ).2.2 G
def st_mismatch (Inv : Nat → sS → sS → sG → Prop) : Prop := ∀ (n : Nat) (S A : sS) (G : sG) (x1 : Int32), Inv n S A G → n < 512 → ((S 0 0 14).toInt ≤ 64) ∧ (0 ≤ (S 20 0 37).toInt ∧ (S 20 0 37).toInt ≤ 64) ∧ V6_mismatch S A G x1 = V7_mismatch S A G x1 ∧ Inv (n + 1) S A G
def st_bin (Inv : Nat → sS → sS → sG → Prop) : Prop := ∀ (n : Nat) (S A : sS) (G : sG) (x1 : Int32) (x2 : Int32), Inv n S A G → n < 512 → (∀ i, i < 64 → 0 ≤ (S 15 i 3).toInt ∧ (S 15 i 3).toInt ≤ 6) ∧ (∀ i, i < 64 → 0 ≤ (A 36 0 i).toInt ∧ (A 36 0 i).toInt ≤ 6) ∧ V6_bin S A G x1 x2 = V7_bin S A G x1 x2 ∧ Inv (n + 1) S A G
def st_lot (Inv : Nat → sS → sS → sG → Prop) : Prop := ∀ (n : Nat) (S A : sS) (G : sG) (x1 : Int32) (x2 : Int32) (x3 : Int32), Inv n S A G → n < 512 → (x3 = 0 ∨ x3 = 1) → (∀ i, i < 64 → 0 ≤ (S 15 i 3).toInt ∧ (S 15 i 3).toInt ≤ 6) ∧ (∀ i, i < 64 → 0 ≤ (A 36 0 i).toInt ∧ (A 36 0 i).toInt ≤ 6) ∧ V6_lot S A G x1 x2 x3 = V7_lot S A G x1 x2 x3 ∧ Inv (n + 1) S A G
def st_stock (Inv : Nat → sS → sS → sG → Prop) : Prop := ∀ (n : Nat) (S A : sS) (G : sG) (x1 : Int32) (x2 : Int32), Inv n S A G → n < 512 → (∀ i, i < 64 → 0 ≤ (S 15 i 3).toInt ∧ (S 15 i 3).toInt ≤ 6) ∧ (∀ i, i < 64 → 0 ≤ (A 36 0 i).toInt ∧ (A 36 0 i).toInt ≤ 6) ∧ V6_stock S A G x1 x2 = V7_stock S A G x1 x2 ∧ Inv (n + 1) S A G
def st_wanted (Inv : Nat → sS → sS → sG → Prop) : Prop := ∀ (n : Nat) (S A : sS) (G : sG) (x1 : Int32), Inv n S A G → n < 512 → (∀ i, i < 64 → 0 ≤ (S 15 i 3).toInt ∧ (S 15 i 3).toInt ≤ 6) ∧ (∀ i, i < 64 → 0 ≤ (A 36 0 i).toInt ∧ (A 36 0 i).toInt ≤ 6) ∧ V6_wanted S A G x1 = V7_wanted S A G x1 ∧ Inv (n + 1) S A G
def st_orderTold (Inv : Nat → sS → sS → sG → Prop) : Prop := ∀ (n : Nat) (S A : sS) (G : sG) (x1 : Int32) (x2 : Int32), Inv n S A G → n < 512 → (0 ≤ (S 0 0 13).toInt ∧ (S 0 0 13).toInt ≤ 60) ∧ (∀ i : Nat, (i : Int) < (S 0 0 13).toInt → ¬ G 4 i = none) ∧ (0 ≤ (S 20 0 20).toInt ∧ (S 20 0 20).toInt ≤ 60) ∧ V6_orderTold S A G x1 x2 = V7_orderTold S A G x1 x2 ∧ Inv (n + 1) S A G
def st_alarms (Inv : Nat → sS → sS → sG → Prop) : Prop := ∀ (n : Nat) (S A : sS) (G : sG), Inv n S A G → n < 512 → (∀ i, i < 64 → 0 ≤ (S 15 i 3).toInt ∧ (S 15 i 3).toInt ≤ 6) ∧ (∀ i, i < 64 → 0 ≤ (A 36 0 i).toInt ∧ (A 36 0 i).toInt ≤ 6) ∧ V6_alarms S A G  = V7_alarms S A G  ∧ Inv (n + 1) S A G
def st_told (Inv : Nat → sS → sS → sG → Prop) : Prop := ∀ (n : Nat) (S A : sS) (G : sG) (x1 : Int32), Inv n S A G → n < 512 → V6_told S A G x1 = V7_told S A G x1 ∧ Inv (n + 1) S A G
def st_entry (Inv : Nat → sS → sS → sG → Prop) : Prop := ∀ (n : Nat) (S A : sS) (G : sG) (x1 : Int32) (x2 : Int32), Inv n S A G → n < 512 → (0 ≤ (S 6 0 1).toInt ∧ (S 6 0 1).toInt ≤ 300) ∧ (0 ≤ (S 20 0 34).toInt ∧ (S 20 0 34).toInt ≤ 300) ∧ V6_entry S A G x1 x2 = V7_entry S A G x1 x2 ∧ Inv (n + 1) S A G
def st_lose (Inv : Nat → sS → sS → sG → Prop) : Prop := ∀ (n : Nat) (S A : sS) (G : sG) (x1 : Int32), Inv n S A G → n < 512 → (O6_lose S A G x1).1 = (O7_lose (O6_lose S A G x1).2.1 (O6_lose S A G x1).2.2 G x1).1 ∧ Inv (n + 1) (O7_lose (O6_lose S A G x1).2.1 (O6_lose S A G x1).2.2 G x1).2.1 (O7_lose (O6_lose S A G x1).2.1 (O6_lose S A G x1).2.2 G x1).2.2 G
def st_repair (Inv : Nat → sS → sS → sG → Prop) : Prop := ∀ (n : Nat) (S A : sS) (G : sG), Inv n S A G → n < 512 → (0 ≤ (S 6 0 1).toInt ∧ (S 6 0 1).toInt ≤ 300) ∧ (O6_repair S A G ).1 = (O7_repair (O6_repair S A G ).2.1 (O6_repair S A G ).2.2 G ).1 ∧ Inv (n + 1) (O7_repair (O6_repair S A G ).2.1 (O6_repair S A G ).2.2 G ).2.1 (O7_repair (O6_repair S A G ).2.1 (O6_repair S A G ).2.2 G ).2.2 G
def st_audit (Inv : Nat → sS → sS → sG → Prop) : Prop := ∀ (n : Nat) (S A : sS) (G : sG), Inv n S A G → n < 512 → (∀ i, i < 64 → 0 ≤ (S 15 i 3).toInt ∧ (S 15 i 3).toInt ≤ 6) ∧ (0 ≤ (S 6 0 1).toInt ∧ (S 6 0 1).toInt ≤ 300) ∧ (∀ i, i < 64 → 0 ≤ ((O6_audit S A G ).2.2 36 0 i).toInt ∧ ((O6_audit S A G ).2.2 36 0 i).toInt ≤ 6) ∧ (0 ≤ ((O6_audit S A G ).2.1 20 0 34).toInt ∧ ((O6_audit S A G ).2.1 20 0 34).toInt ≤ 300) ∧ (O6_audit S A G ).1 = V7_audit (O6_audit S A G ).2.1 (O6_audit S A G ).2.2 G  ∧ Inv (n + 1) (O6_audit S A G ).2.1 (O6_audit S A G ).2.2 G
section LCASE
variable {p : Program} {l : Launch} {e : Env} {s : State} {m : MethodId} {below : List Frame} {meth : Method} {c : Code} {D : va_G} {aC : Nat → ClassId} {b L : Nat} {xs : Nat → Int32} {H : Heap} {locs : List Loc} {cells slots : Nat} {ls : Array Slot} {ad : Nat → Nat → Nat} {X : Nat → Nat → Prop} {S A : sS} {G : sG} {Inv : Nat → sS → sS → sG → Prop} {n : Nat}
/-- where the case of turn n ends: at 912, with the invariant of n + 1 -/
def lw_nx (p : Program) (l : Launch) (e : Env) (s : State) (m : MethodId) (below : List Frame) (meth : Method) (c : Code) (D : va_G) (aC : Nat → ClassId) (b : Nat) (Inv : Nat → sS → sS → sG → Prop) (n : Nat) : Prop := ∀ (ad : Nat → Nat → Nat) (X : Nat → Nat → Prop) (S A : sS) (G : sG) (H : Heap) (locs : List Loc) (ls : Array Slot) (cells slots : Nat), s_B D aC ad X (fun q => s.heap.size ≤ q) S A G s.heap H locs → XI X G → Inv (n + 1) S A G → lv_has ls 4 [(0, .ref b), (1, .ref (ad 0 0)), (2, .ref (ad 20 0)), (3, .int (nI (5 * n)))] → cells ≤ 231 + n → slots ≤ 8585 + 7 * n → W p l e room_1 s m #[Value.ref b] below meth c H locs cells slots (lw_Z below #[Value.ref b] s) (F0 m 912 ls [])
theorem lw_z {R : Room} {Q : State → Prop} {args : Array Value} {rest : List Value} {x : Int32} (hx : p.tables.exec = Jvm.exec) (hb : c.code = code) {pc t1 t2 : Nat} {o1 o2 : Int} (d1 : decode code pc = .ok (.ifCond .eq o1, 3)) (d2 : decode code (pc + 3) = .ok (.iconst 1, 1)) (d3 : decode code (pc + 4) = .ok (.goto o2, 3)) (d4 : decode code t1 = .ok (.iconst 0, 1)) (e1 : (pc : Int) + o1 = (t1 : Int)) (e2 : ((pc + 4 : Nat) : Int) + o2 = (t2 : Int)) (e3 : t1 + 1 = t2) (k : W p l e R s m args below meth c H locs cells slots Q (F0 m t2 ls (.int (zb x) :: rest))) : W p l e R s m args below meth c H locs cells slots Q (F0 m pc ls (.int x :: rest)) := by
  refine lv_if_eq (tgt := t1) hx hb d1 e1 (fun q => ?_) (fun q => ?_)
  · refine lv_iconst (v := 0) hx hb d4 (by decide) ?_
    rw [show zb x = 0 from if_pos q] at k
    rw [e3]; exact k
  · refine lv_iconst (v := 1) hx hb d2 (by decide) ?_
    rw [show zb x = 1 from if_neg q] at k
    exact lv_goto (tgt := t2) hx hb d3 e2 k
set_option maxHeartbeats 4000000 in
theorem lc_user (C0 : s_C p s m #[Value.ref b] meth c code 4 RL ret D aC) (hXs : va_X b L xs s s.heap) (hbl : b < s.heap.size) (hn : n < 512) (hv : ∀ k : Int32, 1 ≤ k → k ≤ 4 → vp_in (nI (5 * n) + k) L) (st : st_user Inv) (hB : s_B D aC ad X (fun q => s.heap.size ≤ q) S A G s.heap H locs) (hX : XI X G) (hI : Inv n S A G) (hl : lv_has ls 4 [(0, .ref b), (1, .ref (ad 0 0)), (2, .ref (ad 20 0)), (3, .int (nI (5 * n)))]) (hc : cells ≤ 230 + n) (hs : slots ≤ 8578 + 7 * n) (hk : lw_nx p l e s m below meth c D aC b Inv n) : W p l e room_1 s m #[Value.ref b] below meth c H locs cells slots (lw_Z below #[Value.ref b] s) (F0 m 152 ls []) := by
  obtain ⟨hx, hb, -⟩ := id C0
  have hbA : ¬ (fun q : Nat => s.heap.size ≤ q) b := fun z => absurd hbl (Nat.not_lt.mpr z)
  obtain ⟨qa, qi⟩ := st n S A G (xs ((nI (5 * n) + 1).toNatClampNeg)) (xs ((nI (5 * n) + 2).toNatClampNeg)) (xs ((nI (5 * n) + 3).toNatClampNeg)) hI hn
  refine lv_aload_n hx hb dL_law_152 rfl (lv_at hl 1 rfl) ?_
  refine lv_aload_n hx hb dL_law_153 rfl (lv_at hl 0 rfl) ?_
  refine lv_iload_n hx hb dL_law_154 rfl (lv_at hl 3 rfl) ?_
  refine lv_iconst (v := 1) hx hb dL_law_155 (by decide) ?_
  refine lv_iadd hx hb dL_law_156 ?_
  refine va_sld hx hb hXs hbl hbA hB.2.2.1 (hv 1 (by decide) (by decide)) dL_law_157 ?_
  refine lv_aload_n hx hb dL_law_158 rfl (lv_at hl 0 rfl) ?_
  refine lv_iload_n hx hb dL_law_159 rfl (lv_at hl 3 rfl) ?_
  refine lv_iconst (v := 2) hx hb dL_law_160 (by decide) ?_
  refine lv_iadd hx hb dL_law_161 ?_
  refine va_sld hx hb hXs hbl hbA hB.2.2.1 (hv 2 (by decide) (by decide)) dL_law_162 ?_
  refine lv_aload_n hx hb dL_law_163 rfl (lv_at hl 0 rfl) ?_
  refine lv_iload_n hx hb dL_law_164 rfl (lv_at hl 3 rfl) ?_
  refine lv_iconst (v := 3) hx hb dL_law_165 (by decide) ?_
  refine lv_iadd hx hb dL_law_166 ?_
  refine va_sld hx hb hXs hbl hbA hB.2.2.1 (hv 3 (by decide) (by decide)) dL_law_167 ?_
  refine sr_va C0 hB (fun _ h => h) (m6_user H.size hX.1 hX.2.2.1 hX.2.2.2.1 hX.2.2.2.2.2.2.1 (xs ((nI (5 * n) + 1).toNatClampNeg)) (xs ((nI (5 * n) + 2).toNatClampNeg)) (xs ((nI (5 * n) + 3).toNatClampNeg))) (hX.1.1 0 (by decide)) cf_0 ml_L_13 im_6_user se_6_user in_6 cd_6_user hd6_user ⟨⟨rfl, rfl⟩, by decide, by decide⟩ ⟨show cells + 1 ≤ 600000 by omega, show slots + 4 ≤ 7302250 by omega⟩ hl.1 rfl (Nat.le_of_ble_eq_true rfl) dL_law_168 (fun ad1 H locs hsame hB => ?_)
  have hl : lv_has ls 4 [(0, .ref b), (1, .ref (ad1 0 0)), (2, .ref (ad1 20 0)), (3, .int (nI (5 * n)))] := by rw [hsame 0 0 (hX.1.1 0 (by decide)), hsame 20 0 (hX.2.1 20 ⟨by decide, by decide⟩)]; exact hl
  have hX := hX.grow (fm := 12) (ar := 1) (by omega) (O6_user S A G (xs ((nI (5 * n) + 1).toNatClampNeg)) (xs ((nI (5 * n) + 2).toNatClampNeg)) (xs ((nI (5 * n) + 3).toNatClampNeg))).2.2.2
  refine lv_aload_n hx hb dL_law_171 rfl (lv_at hl 2 rfl) ?_
  refine lv_aload_n hx hb dL_law_172 rfl (lv_at hl 0 rfl) ?_
  refine lv_iload_n hx hb dL_law_173 rfl (lv_at hl 3 rfl) ?_
  refine lv_iconst (v := 1) hx hb dL_law_174 (by decide) ?_
  refine lv_iadd hx hb dL_law_175 ?_
  refine va_sld hx hb hXs hbl hbA hB.2.2.1 (hv 1 (by decide) (by decide)) dL_law_176 ?_
  refine lv_aload_n hx hb dL_law_177 rfl (lv_at hl 0 rfl) ?_
  refine lv_iload_n hx hb dL_law_178 rfl (lv_at hl 3 rfl) ?_
  refine lv_iconst (v := 2) hx hb dL_law_179 (by decide) ?_
  refine lv_iadd hx hb dL_law_180 ?_
  refine va_sld hx hb hXs hbl hbA hB.2.2.1 (hv 2 (by decide) (by decide)) dL_law_181 ?_
  refine lv_aload_n hx hb dL_law_182 rfl (lv_at hl 0 rfl) ?_
  refine lv_iload_n hx hb dL_law_183 rfl (lv_at hl 3 rfl) ?_
  refine lv_iconst (v := 3) hx hb dL_law_184 (by decide) ?_
  refine lv_iadd hx hb dL_law_185 ?_
  refine va_sld hx hb hXs hbl hbA hB.2.2.1 (hv 3 (by decide) (by decide)) dL_law_186 ?_
  refine sr_vi C0 hB (m7_user hX.2.1 (xs ((nI (5 * n) + 1).toNatClampNeg)) (xs ((nI (5 * n) + 2).toNatClampNeg)) (xs ((nI (5 * n) + 3).toNatClampNeg))) (hX.2.1 20 ⟨by decide, by decide⟩) cf_20 ml_L_17 im_7_user se_7_user in_7 cd_7_user hd7_user ⟨⟨rfl, rfl⟩, by decide, by decide⟩ ⟨show cells + 1 ≤ 600000 by omega, show slots + 4 ≤ 7302250 by omega⟩ hl.1 rfl (Nat.le_of_ble_eq_true rfl) dL_law_187 (fun H locs hB => ?_)
  refine lv_icmp_eq (tgt := 912) hx hb dL_law_190 (by decide) (fun _ => ?_) (fun z => absurd qa z)
  exact hk ad1 _ _ _ _ H locs ls (cells + 1) (slots + 4) hB hX qi hl (by omega) (by omega)
set_option maxHeartbeats 4000000 in
theorem lc_item (C0 : s_C p s m #[Value.ref b] meth c code 4 RL ret D aC) (hXs : va_X b L xs s s.heap) (hbl : b < s.heap.size) (hn : n < 512) (hv : ∀ k : Int32, 1 ≤ k → k ≤ 4 → vp_in (nI (5 * n) + k) L) (st : st_item Inv) (hB : s_B D aC ad X (fun q => s.heap.size ≤ q) S A G s.heap H locs) (hX : XI X G) (hI : Inv n S A G) (hl : lv_has ls 4 [(0, .ref b), (1, .ref (ad 0 0)), (2, .ref (ad 20 0)), (3, .int (nI (5 * n)))]) (hc : cells ≤ 230 + n) (hs : slots ≤ 8578 + 7 * n) (hk : lw_nx p l e s m below meth c D aC b Inv n) : W p l e room_1 s m #[Value.ref b] below meth c H locs cells slots (lw_Z below #[Value.ref b] s) (F0 m 195 ls []) := by
  obtain ⟨hx, hb, -⟩ := id C0
  have hbA : ¬ (fun q : Nat => s.heap.size ≤ q) b := fun z => absurd hbl (Nat.not_lt.mpr z)
  obtain ⟨qa, qi⟩ := st n S A G (xs ((nI (5 * n) + 1).toNatClampNeg)) (zb (xs ((nI (5 * n) + 2).toNatClampNeg))) (xs ((nI (5 * n) + 3).toNatClampNeg)) hI hn (zb_01 _)
  refine lv_aload_n hx hb dL_law_195 rfl (lv_at hl 1 rfl) ?_
  refine lv_aload_n hx hb dL_law_196 rfl (lv_at hl 0 rfl) ?_
  refine lv_iload_n hx hb dL_law_197 rfl (lv_at hl 3 rfl) ?_
  refine lv_iconst (v := 1) hx hb dL_law_198 (by decide) ?_
  refine lv_iadd hx hb dL_law_199 ?_
  refine va_sld hx hb hXs hbl hbA hB.2.2.1 (hv 1 (by decide) (by decide)) dL_law_200 ?_
  refine lv_aload_n hx hb dL_law_201 rfl (lv_at hl 0 rfl) ?_
  refine lv_iload_n hx hb dL_law_202 rfl (lv_at hl 3 rfl) ?_
  refine lv_iconst (v := 2) hx hb dL_law_203 (by decide) ?_
  refine lv_iadd hx hb dL_law_204 ?_
  refine va_sld hx hb hXs hbl hbA hB.2.2.1 (hv 2 (by decide) (by decide)) dL_law_205 ?_
  refine lw_z (t1 := 213) (t2 := 214) hx hb dL_law_206 dL_law_209 dL_law_210 dL_law_213 (by decide) (by decide) rfl ?_
  refine lv_aload_n hx hb dL_law_214 rfl (lv_at hl 0 rfl) ?_
  refine lv_iload_n hx hb dL_law_215 rfl (lv_at hl 3 rfl) ?_
  refine lv_iconst (v := 3) hx hb dL_law_216 (by decide) ?_
  refine lv_iadd hx hb dL_law_217 ?_
  refine va_sld hx hb hXs hbl hbA hB.2.2.1 (hv 3 (by decide) (by decide)) dL_law_218 ?_
  refine sr_va C0 hB (fun _ h => h) (m6_item H.size hX.1 hX.2.2.1 hX.2.2.2.2.1 hX.2.2.2.2.2.2.2.1 (xs ((nI (5 * n) + 1).toNatClampNeg)) (zb (xs ((nI (5 * n) + 2).toNatClampNeg))) (xs ((nI (5 * n) + 3).toNatClampNeg)) (zb_01 _)) (hX.1.1 0 (by decide)) cf_0 ml_L_18 im_6_item se_6_item in_6 cd_6_item hd6_item ⟨⟨rfl, rfl⟩, by decide, by decide⟩ ⟨show cells + 1 ≤ 600000 by omega, show slots + 3 ≤ 7302250 by omega⟩ hl.1 rfl (Nat.le_of_ble_eq_true rfl) dL_law_219 (fun ad1 H locs hsame hB => ?_)
  have hl : lv_has ls 4 [(0, .ref b), (1, .ref (ad1 0 0)), (2, .ref (ad1 20 0)), (3, .int (nI (5 * n)))] := by rw [hsame 0 0 (hX.1.1 0 (by decide)), hsame 20 0 (hX.2.1 20 ⟨by decide, by decide⟩)]; exact hl
  have hX := hX.grow (fm := 13) (ar := 2) (by omega) (O6_item S A G (xs ((nI (5 * n) + 1).toNatClampNeg)) (zb (xs ((nI (5 * n) + 2).toNatClampNeg))) (xs ((nI (5 * n) + 3).toNatClampNeg))).2.2.2
  refine lv_aload_n hx hb dL_law_222 rfl (lv_at hl 2 rfl) ?_
  refine lv_aload_n hx hb dL_law_223 rfl (lv_at hl 0 rfl) ?_
  refine lv_iload_n hx hb dL_law_224 rfl (lv_at hl 3 rfl) ?_
  refine lv_iconst (v := 1) hx hb dL_law_225 (by decide) ?_
  refine lv_iadd hx hb dL_law_226 ?_
  refine va_sld hx hb hXs hbl hbA hB.2.2.1 (hv 1 (by decide) (by decide)) dL_law_227 ?_
  refine lv_aload_n hx hb dL_law_228 rfl (lv_at hl 0 rfl) ?_
  refine lv_iload_n hx hb dL_law_229 rfl (lv_at hl 3 rfl) ?_
  refine lv_iconst (v := 2) hx hb dL_law_230 (by decide) ?_
  refine lv_iadd hx hb dL_law_231 ?_
  refine va_sld hx hb hXs hbl hbA hB.2.2.1 (hv 2 (by decide) (by decide)) dL_law_232 ?_
  refine lw_z (t1 := 240) (t2 := 241) hx hb dL_law_233 dL_law_236 dL_law_237 dL_law_240 (by decide) (by decide) rfl ?_
  refine lv_aload_n hx hb dL_law_241 rfl (lv_at hl 0 rfl) ?_
  refine lv_iload_n hx hb dL_law_242 rfl (lv_at hl 3 rfl) ?_
  refine lv_iconst (v := 3) hx hb dL_law_243 (by decide) ?_
  refine lv_iadd hx hb dL_law_244 ?_
  refine va_sld hx hb hXs hbl hbA hB.2.2.1 (hv 3 (by decide) (by decide)) dL_law_245 ?_
  refine sr_vi C0 hB (m7_item hX.2.1 (xs ((nI (5 * n) + 1).toNatClampNeg)) (zb (xs ((nI (5 * n) + 2).toNatClampNeg))) (xs ((nI (5 * n) + 3).toNatClampNeg)) (zb_01 _)) (hX.2.1 20 ⟨by decide, by decide⟩) cf_20 ml_L_22 im_7_item se_7_item in_7 cd_7_item hd7_item ⟨⟨rfl, rfl⟩, by decide, by decide⟩ ⟨show cells + 1 ≤ 600000 by omega, show slots + 3 ≤ 7302250 by omega⟩ hl.1 rfl (Nat.le_of_ble_eq_true rfl) dL_law_246 (fun H locs hB => ?_)
  refine lv_icmp_eq (tgt := 912) hx hb dL_law_249 (by decide) (fun _ => ?_) (fun z => absurd qa z)
  exact hk ad1 _ _ _ _ H locs ls (cells + 1) (slots + 3) hB hX qi hl (by omega) (by omega)
set_option maxHeartbeats 4000000 in
theorem lc_login (C0 : s_C p s m #[Value.ref b] meth c code 4 RL ret D aC) (hXs : va_X b L xs s s.heap) (hbl : b < s.heap.size) (hn : n < 512) (hv : ∀ k : Int32, 1 ≤ k → k ≤ 4 → vp_in (nI (5 * n) + k) L) (st : st_login Inv) (hB : s_B D aC ad X (fun q => s.heap.size ≤ q) S A G s.heap H locs) (hX : XI X G) (hI : Inv n S A G) (hl : lv_has ls 4 [(0, .ref b), (1, .ref (ad 0 0)), (2, .ref (ad 20 0)), (3, .int (nI (5 * n)))]) (hc : cells ≤ 230 + n) (hs : slots ≤ 8578 + 7 * n) (hk : lw_nx p l e s m below meth c D aC b Inv n) : W p l e room_1 s m #[Value.ref b] below meth c H locs cells slots (lw_Z below #[Value.ref b] s) (F0 m 254 ls []) := by
  obtain ⟨hx, hb, -⟩ := id C0
  have hbA : ¬ (fun q : Nat => s.heap.size ≤ q) b := fun z => absurd hbl (Nat.not_lt.mpr z)
  obtain ⟨qa, qi⟩ := st n S A G (xs ((nI (5 * n) + 1).toNatClampNeg)) (xs ((nI (5 * n) + 2).toNatClampNeg)) hI hn
  refine lv_aload_n hx hb dL_law_254 rfl (lv_at hl 1 rfl) ?_
  refine lv_aload_n hx hb dL_law_255 rfl (lv_at hl 0 rfl) ?_
  refine lv_iload_n hx hb dL_law_256 rfl (lv_at hl 3 rfl) ?_
  refine lv_iconst (v := 1) hx hb dL_law_257 (by decide) ?_
  refine lv_iadd hx hb dL_law_258 ?_
  refine va_sld hx hb hXs hbl hbA hB.2.2.1 (hv 1 (by decide) (by decide)) dL_law_259 ?_
  refine lv_aload_n hx hb dL_law_260 rfl (lv_at hl 0 rfl) ?_
  refine lv_iload_n hx hb dL_law_261 rfl (lv_at hl 3 rfl) ?_
  refine lv_iconst (v := 2) hx hb dL_law_262 (by decide) ?_
  refine lv_iadd hx hb dL_law_263 ?_
  refine va_sld hx hb hXs hbl hbA hB.2.2.1 (hv 2 (by decide) (by decide)) dL_law_264 ?_
  refine sr_vi C0 hB (m6_login hX.1 (xs ((nI (5 * n) + 1).toNatClampNeg)) (xs ((nI (5 * n) + 2).toNatClampNeg))) (hX.1.1 0 (by decide)) cf_0 ml_L_23 im_6_login se_6_login in_6 cd_6_login hd6_login ⟨⟨rfl, rfl⟩, by decide, by decide⟩ ⟨show cells ≤ 600000 by omega, show slots ≤ 7302250 by omega⟩ hl.1 rfl (Nat.le_of_ble_eq_true rfl) dL_law_265 (fun H locs hB => ?_)
  refine lv_aload_n hx hb dL_law_268 rfl (lv_at hl 2 rfl) ?_
  refine lv_aload_n hx hb dL_law_269 rfl (lv_at hl 0 rfl) ?_
  refine lv_iload_n hx hb dL_law_270 rfl (lv_at hl 3 rfl) ?_
  refine lv_iconst (v := 1) hx hb dL_law_271 (by decide) ?_
  refine lv_iadd hx hb dL_law_272 ?_
  refine va_sld hx hb hXs hbl hbA hB.2.2.1 (hv 1 (by decide) (by decide)) dL_law_273 ?_
  refine lv_aload_n hx hb dL_law_274 rfl (lv_at hl 0 rfl) ?_
  refine lv_iload_n hx hb dL_law_275 rfl (lv_at hl 3 rfl) ?_
  refine lv_iconst (v := 2) hx hb dL_law_276 (by decide) ?_
  refine lv_iadd hx hb dL_law_277 ?_
  refine va_sld hx hb hXs hbl hbA hB.2.2.1 (hv 2 (by decide) (by decide)) dL_law_278 ?_
  refine sr_vi C0 hB (m7_login hX.2.1 (xs ((nI (5 * n) + 1).toNatClampNeg)) (xs ((nI (5 * n) + 2).toNatClampNeg))) (hX.2.1 20 ⟨by decide, by decide⟩) cf_20 ml_L_27 im_7_login se_7_login in_7 cd_7_login hd7_login ⟨⟨rfl, rfl⟩, by decide, by decide⟩ ⟨show cells ≤ 600000 by omega, show slots ≤ 7302250 by omega⟩ hl.1 rfl (Nat.le_of_ble_eq_true rfl) dL_law_279 (fun H locs hB => ?_)
  refine lv_icmp_eq (tgt := 912) hx hb dL_law_282 (by decide) (fun _ => ?_) (fun z => absurd qa z)
  exact hk ad _ _ _ _ H locs ls cells slots hB hX qi hl (by omega) (by omega)
set_option maxHeartbeats 4000000 in
theorem lc_logout (C0 : s_C p s m #[Value.ref b] meth c code 4 RL ret D aC) (hXs : va_X b L xs s s.heap) (hbl : b < s.heap.size) (hn : n < 512) (hv : ∀ k : Int32, 1 ≤ k → k ≤ 4 → vp_in (nI (5 * n) + k) L) (st : st_logout Inv) (hB : s_B D aC ad X (fun q => s.heap.size ≤ q) S A G s.heap H locs) (hX : XI X G) (hI : Inv n S A G) (hl : lv_has ls 4 [(0, .ref b), (1, .ref (ad 0 0)), (2, .ref (ad 20 0)), (3, .int (nI (5 * n)))]) (hc : cells ≤ 230 + n) (hs : slots ≤ 8578 + 7 * n) (hk : lw_nx p l e s m below meth c D aC b Inv n) : W p l e room_1 s m #[Value.ref b] below meth c H locs cells slots (lw_Z below #[Value.ref b] s) (F0 m 287 ls []) := by
  obtain ⟨hx, hb, -⟩ := id C0
  have hbA : ¬ (fun q : Nat => s.heap.size ≤ q) b := fun z => absurd hbl (Nat.not_lt.mpr z)
  obtain ⟨qa, qi⟩ := st n S A G  hI hn
  refine lv_aload_n hx hb dL_law_287 rfl (lv_at hl 1 rfl) ?_
  refine sr_vi C0 hB (m6_logout hX.1) (hX.1.1 0 (by decide)) cf_0 ml_L_28 im_6_logout se_6_logout in_6 cd_6_logout hd6_logout ⟨⟨rfl, rfl⟩, by decide, by decide⟩ ⟨show cells ≤ 600000 by omega, show slots ≤ 7302250 by omega⟩ hl.1 rfl (Nat.le_of_ble_eq_true rfl) dL_law_288 (fun H locs hB => ?_)
  refine lv_aload_n hx hb dL_law_291 rfl (lv_at hl 2 rfl) ?_
  refine sr_vi C0 hB (m7_logout hX.2.1) (hX.2.1 20 ⟨by decide, by decide⟩) cf_20 ml_L_32 im_7_logout se_7_logout in_7 cd_7_logout hd7_logout ⟨⟨rfl, rfl⟩, by decide, by decide⟩ ⟨show cells ≤ 600000 by omega, show slots ≤ 7302250 by omega⟩ hl.1 rfl (Nat.le_of_ble_eq_true rfl) dL_law_292 (fun H locs hB => ?_)
  refine lv_icmp_eq (tgt := 912) hx hb dL_law_295 (by decide) (fun _ => ?_) (fun z => absurd qa z)
  exact hk ad _ _ _ _ H locs ls cells slots hB hX qi hl (by omega) (by omega)
set_option maxHeartbeats 4000000 in
theorem lc_witness (C0 : s_C p s m #[Value.ref b] meth c code 4 RL ret D aC) (hXs : va_X b L xs s s.heap) (hbl : b < s.heap.size) (hn : n < 512) (hv : ∀ k : Int32, 1 ≤ k → k ≤ 4 → vp_in (nI (5 * n) + k) L) (st : st_witness Inv) (hB : s_B D aC ad X (fun q => s.heap.size ≤ q) S A G s.heap H locs) (hX : XI X G) (hI : Inv n S A G) (hl : lv_has ls 4 [(0, .ref b), (1, .ref (ad 0 0)), (2, .ref (ad 20 0)), (3, .int (nI (5 * n)))]) (hc : cells ≤ 230 + n) (hs : slots ≤ 8578 + 7 * n) (hk : lw_nx p l e s m below meth c D aC b Inv n) : W p l e room_1 s m #[Value.ref b] below meth c H locs cells slots (lw_Z below #[Value.ref b] s) (F0 m 300 ls []) := by
  obtain ⟨hx, hb, -⟩ := id C0
  have hbA : ¬ (fun q : Nat => s.heap.size ≤ q) b := fun z => absurd hbl (Nat.not_lt.mpr z)
  obtain ⟨qa, qi⟩ := st n S A G (xs ((nI (5 * n) + 1).toNatClampNeg)) (xs ((nI (5 * n) + 2).toNatClampNeg)) hI hn
  refine lv_aload_n hx hb dL_law_300 rfl (lv_at hl 1 rfl) ?_
  refine lv_aload_n hx hb dL_law_301 rfl (lv_at hl 0 rfl) ?_
  refine lv_iload_n hx hb dL_law_302 rfl (lv_at hl 3 rfl) ?_
  refine lv_iconst (v := 1) hx hb dL_law_303 (by decide) ?_
  refine lv_iadd hx hb dL_law_304 ?_
  refine va_sld hx hb hXs hbl hbA hB.2.2.1 (hv 1 (by decide) (by decide)) dL_law_305 ?_
  refine lv_aload_n hx hb dL_law_306 rfl (lv_at hl 0 rfl) ?_
  refine lv_iload_n hx hb dL_law_307 rfl (lv_at hl 3 rfl) ?_
  refine lv_iconst (v := 2) hx hb dL_law_308 (by decide) ?_
  refine lv_iadd hx hb dL_law_309 ?_
  refine va_sld hx hb hXs hbl hbA hB.2.2.1 (hv 2 (by decide) (by decide)) dL_law_310 ?_
  refine sr_vi C0 hB (m6_witness hX.1 (xs ((nI (5 * n) + 1).toNatClampNeg)) (xs ((nI (5 * n) + 2).toNatClampNeg))) (hX.1.1 0 (by decide)) cf_0 ml_L_33 im_6_witness se_6_witness in_6 cd_6_witness hd6_witness ⟨⟨rfl, rfl⟩, by decide, by decide⟩ ⟨show cells ≤ 600000 by omega, show slots ≤ 7302250 by omega⟩ hl.1 rfl (Nat.le_of_ble_eq_true rfl) dL_law_311 (fun H locs hB => ?_)
  refine lv_aload_n hx hb dL_law_314 rfl (lv_at hl 2 rfl) ?_
  refine lv_aload_n hx hb dL_law_315 rfl (lv_at hl 0 rfl) ?_
  refine lv_iload_n hx hb dL_law_316 rfl (lv_at hl 3 rfl) ?_
  refine lv_iconst (v := 1) hx hb dL_law_317 (by decide) ?_
  refine lv_iadd hx hb dL_law_318 ?_
  refine va_sld hx hb hXs hbl hbA hB.2.2.1 (hv 1 (by decide) (by decide)) dL_law_319 ?_
  refine lv_aload_n hx hb dL_law_320 rfl (lv_at hl 0 rfl) ?_
  refine lv_iload_n hx hb dL_law_321 rfl (lv_at hl 3 rfl) ?_
  refine lv_iconst (v := 2) hx hb dL_law_322 (by decide) ?_
  refine lv_iadd hx hb dL_law_323 ?_
  refine va_sld hx hb hXs hbl hbA hB.2.2.1 (hv 2 (by decide) (by decide)) dL_law_324 ?_
  refine sr_vi C0 hB (m7_witness hX.2.1 (xs ((nI (5 * n) + 1).toNatClampNeg)) (xs ((nI (5 * n) + 2).toNatClampNeg))) (hX.2.1 20 ⟨by decide, by decide⟩) cf_20 ml_L_36 im_7_witness se_7_witness in_7 cd_7_witness hd7_witness ⟨⟨rfl, rfl⟩, by decide, by decide⟩ ⟨show cells ≤ 600000 by omega, show slots ≤ 7302250 by omega⟩ hl.1 rfl (Nat.le_of_ble_eq_true rfl) dL_law_325 (fun H locs hB => ?_)
  refine lv_icmp_eq (tgt := 912) hx hb dL_law_328 (by decide) (fun _ => ?_) (fun z => absurd qa z)
  exact hk ad _ _ _ _ H locs ls cells slots hB hX qi hl (by omega) (by omega)
set_option maxHeartbeats 4000000 in
theorem lc_tick (C0 : s_C p s m #[Value.ref b] meth c code 4 RL ret D aC) (hXs : va_X b L xs s s.heap) (hbl : b < s.heap.size) (hn : n < 512) (hv : ∀ k : Int32, 1 ≤ k → k ≤ 4 → vp_in (nI (5 * n) + k) L) (st : st_tick Inv) (hB : s_B D aC ad X (fun q => s.heap.size ≤ q) S A G s.heap H locs) (hX : XI X G) (hI : Inv n S A G) (hl : lv_has ls 4 [(0, .ref b), (1, .ref (ad 0 0)), (2, .ref (ad 20 0)), (3, .int (nI (5 * n)))]) (hc : cells ≤ 230 + n) (hs : slots ≤ 8578 + 7 * n) (hk : lw_nx p l e s m below meth c D aC b Inv n) : W p l e room_1 s m #[Value.ref b] below meth c H locs cells slots (lw_Z below #[Value.ref b] s) (F0 m 333 ls []) := by
  obtain ⟨hx, hb, -⟩ := id C0
  have hbA : ¬ (fun q : Nat => s.heap.size ≤ q) b := fun z => absurd hbl (Nat.not_lt.mpr z)
  obtain ⟨qa, qi⟩ := st n S A G (xs ((nI (5 * n) + 1).toNatClampNeg)) hI hn
  refine lv_aload_n hx hb dL_law_333 rfl (lv_at hl 1 rfl) ?_
  refine lv_aload_n hx hb dL_law_334 rfl (lv_at hl 0 rfl) ?_
  refine lv_iload_n hx hb dL_law_335 rfl (lv_at hl 3 rfl) ?_
  refine lv_iconst (v := 1) hx hb dL_law_336 (by decide) ?_
  refine lv_iadd hx hb dL_law_337 ?_
  refine va_sld hx hb hXs hbl hbA hB.2.2.1 (hv 1 (by decide) (by decide)) dL_law_338 ?_
  refine sr_vi C0 hB (m6_tick hX.1 (xs ((nI (5 * n) + 1).toNatClampNeg))) (hX.1.1 0 (by decide)) cf_0 ml_L_37 im_6_tick se_6_tick in_6 cd_6_tick hd6_tick ⟨⟨rfl, rfl⟩, by decide, by decide⟩ ⟨show cells ≤ 600000 by omega, show slots ≤ 7302250 by omega⟩ hl.1 rfl (Nat.le_of_ble_eq_true rfl) dL_law_339 (fun H locs hB => ?_)
  refine lv_aload_n hx hb dL_law_342 rfl (lv_at hl 2 rfl) ?_
  refine lv_aload_n hx hb dL_law_343 rfl (lv_at hl 0 rfl) ?_
  refine lv_iload_n hx hb dL_law_344 rfl (lv_at hl 3 rfl) ?_
  refine lv_iconst (v := 1) hx hb dL_law_345 (by decide) ?_
  refine lv_iadd hx hb dL_law_346 ?_
  refine va_sld hx hb hXs hbl hbA hB.2.2.1 (hv 1 (by decide) (by decide)) dL_law_347 ?_
  refine sr_vi C0 hB (m7_tick hX.2.1 (xs ((nI (5 * n) + 1).toNatClampNeg))) (hX.2.1 20 ⟨by decide, by decide⟩) cf_20 ml_L_41 im_7_tick se_7_tick in_7 cd_7_tick hd7_tick ⟨⟨rfl, rfl⟩, by decide, by decide⟩ ⟨show cells ≤ 600000 by omega, show slots ≤ 7302250 by omega⟩ hl.1 rfl (Nat.le_of_ble_eq_true rfl) dL_law_348 (fun H locs hB => ?_)
  refine lv_icmp_eq (tgt := 912) hx hb dL_law_351 (by decide) (fun _ => ?_) (fun z => absurd qa z)
  exact hk ad _ _ _ _ H locs ls cells slots hB hX qi hl (by omega) (by omega)
set_option maxHeartbeats 4000000 in
theorem lc_order (C0 : s_C p s m #[Value.ref b] meth c code 4 RL ret D aC) (hXs : va_X b L xs s s.heap) (hbl : b < s.heap.size) (hn : n < 512) (hv : ∀ k : Int32, 1 ≤ k → k ≤ 4 → vp_in (nI (5 * n) + k) L) (st : st_order Inv) (hB : s_B D aC ad X (fun q => s.heap.size ≤ q) S A G s.heap H locs) (hX : XI X G) (hI : Inv n S A G) (hl : lv_has ls 4 [(0, .ref b), (1, .ref (ad 0 0)), (2, .ref (ad 20 0)), (3, .int (nI (5 * n)))]) (hc : cells ≤ 230 + n) (hs : slots ≤ 8578 + 7 * n) (hk : lw_nx p l e s m below meth c D aC b Inv n) : W p l e room_1 s m #[Value.ref b] below meth c H locs cells slots (lw_Z below #[Value.ref b] s) (F0 m 356 ls []) := by
  obtain ⟨hx, hb, -⟩ := id C0
  have hbA : ¬ (fun q : Nat => s.heap.size ≤ q) b := fun z => absurd hbl (Nat.not_lt.mpr z)
  obtain ⟨q60, q61, q70, q71, qa, qi⟩ := st n S A G (xs ((nI (5 * n) + 1).toNatClampNeg)) (xs ((nI (5 * n) + 2).toNatClampNeg)) (xs ((nI (5 * n) + 3).toNatClampNeg)) (xs ((nI (5 * n) + 4).toNatClampNeg)) hI hn
  refine lv_aload_n hx hb dL_law_356 rfl (lv_at hl 1 rfl) ?_
  refine lv_aload_n hx hb dL_law_357 rfl (lv_at hl 0 rfl) ?_
  refine lv_iload_n hx hb dL_law_358 rfl (lv_at hl 3 rfl) ?_
  refine lv_iconst (v := 1) hx hb dL_law_359 (by decide) ?_
  refine lv_iadd hx hb dL_law_360 ?_
  refine va_sld hx hb hXs hbl hbA hB.2.2.1 (hv 1 (by decide) (by decide)) dL_law_361 ?_
  refine lv_aload_n hx hb dL_law_362 rfl (lv_at hl 0 rfl) ?_
  refine lv_iload_n hx hb dL_law_363 rfl (lv_at hl 3 rfl) ?_
  refine lv_iconst (v := 2) hx hb dL_law_364 (by decide) ?_
  refine lv_iadd hx hb dL_law_365 ?_
  refine va_sld hx hb hXs hbl hbA hB.2.2.1 (hv 2 (by decide) (by decide)) dL_law_366 ?_
  refine lv_aload_n hx hb dL_law_367 rfl (lv_at hl 0 rfl) ?_
  refine lv_iload_n hx hb dL_law_368 rfl (lv_at hl 3 rfl) ?_
  refine lv_iconst (v := 3) hx hb dL_law_369 (by decide) ?_
  refine lv_iadd hx hb dL_law_370 ?_
  refine va_sld hx hb hXs hbl hbA hB.2.2.1 (hv 3 (by decide) (by decide)) dL_law_371 ?_
  refine lv_aload_n hx hb dL_law_372 rfl (lv_at hl 0 rfl) ?_
  refine lv_iload_n hx hb dL_law_373 rfl (lv_at hl 3 rfl) ?_
  refine lv_iconst (v := 4) hx hb dL_law_374 (by decide) ?_
  refine lv_iadd hx hb dL_law_375 ?_
  refine va_sld hx hb hXs hbl hbA hB.2.2.1 (hv 4 (by decide) (by decide)) dL_law_376 ?_
  refine sr_va C0 hB (fun _ h => h) (m6_order H.size hX.1 hX.2.2.1 hX.2.2.2.2.2.1 hX.2.2.2.2.2.2.2.2 (xs ((nI (5 * n) + 1).toNatClampNeg)) (xs ((nI (5 * n) + 2).toNatClampNeg)) (xs ((nI (5 * n) + 3).toNatClampNeg)) (xs ((nI (5 * n) + 4).toNatClampNeg)) q60 q61) (hX.1.1 0 (by decide)) cf_0 ml_L_42 im_6_order se_6_order in_6 cd_6_order hd6_order ⟨⟨rfl, rfl⟩, by decide, by decide⟩ ⟨show cells + 1 ≤ 600000 by omega, show slots + 7 ≤ 7302250 by omega⟩ hl.1 rfl (Nat.le_of_ble_eq_true rfl) dL_law_377 (fun ad1 H locs hsame hB => ?_)
  have hl : lv_has ls 4 [(0, .ref b), (1, .ref (ad1 0 0)), (2, .ref (ad1 20 0)), (3, .int (nI (5 * n)))] := by rw [hsame 0 0 (hX.1.1 0 (by decide)), hsame 20 0 (hX.2.1 20 ⟨by decide, by decide⟩)]; exact hl
  have hX := hX.grow (fm := 14) (ar := 4) (by omega) (O6_order S A G (xs ((nI (5 * n) + 1).toNatClampNeg)) (xs ((nI (5 * n) + 2).toNatClampNeg)) (xs ((nI (5 * n) + 3).toNatClampNeg)) (xs ((nI (5 * n) + 4).toNatClampNeg))).2.2.2
  refine lv_aload_n hx hb dL_law_380 rfl (lv_at hl 2 rfl) ?_
  refine lv_aload_n hx hb dL_law_381 rfl (lv_at hl 0 rfl) ?_
  refine lv_iload_n hx hb dL_law_382 rfl (lv_at hl 3 rfl) ?_
  refine lv_iconst (v := 1) hx hb dL_law_383 (by decide) ?_
  refine lv_iadd hx hb dL_law_384 ?_
  refine va_sld hx hb hXs hbl hbA hB.2.2.1 (hv 1 (by decide) (by decide)) dL_law_385 ?_
  refine lv_aload_n hx hb dL_law_386 rfl (lv_at hl 0 rfl) ?_
  refine lv_iload_n hx hb dL_law_387 rfl (lv_at hl 3 rfl) ?_
  refine lv_iconst (v := 2) hx hb dL_law_388 (by decide) ?_
  refine lv_iadd hx hb dL_law_389 ?_
  refine va_sld hx hb hXs hbl hbA hB.2.2.1 (hv 2 (by decide) (by decide)) dL_law_390 ?_
  refine lv_aload_n hx hb dL_law_391 rfl (lv_at hl 0 rfl) ?_
  refine lv_iload_n hx hb dL_law_392 rfl (lv_at hl 3 rfl) ?_
  refine lv_iconst (v := 3) hx hb dL_law_393 (by decide) ?_
  refine lv_iadd hx hb dL_law_394 ?_
  refine va_sld hx hb hXs hbl hbA hB.2.2.1 (hv 3 (by decide) (by decide)) dL_law_395 ?_
  refine lv_aload_n hx hb dL_law_396 rfl (lv_at hl 0 rfl) ?_
  refine lv_iload_n hx hb dL_law_397 rfl (lv_at hl 3 rfl) ?_
  refine lv_iconst (v := 4) hx hb dL_law_398 (by decide) ?_
  refine lv_iadd hx hb dL_law_399 ?_
  refine va_sld hx hb hXs hbl hbA hB.2.2.1 (hv 4 (by decide) (by decide)) dL_law_400 ?_
  refine sr_vi C0 hB (m7_order hX.2.1 (xs ((nI (5 * n) + 1).toNatClampNeg)) (xs ((nI (5 * n) + 2).toNatClampNeg)) (xs ((nI (5 * n) + 3).toNatClampNeg)) (xs ((nI (5 * n) + 4).toNatClampNeg)) q70 q71) (hX.2.1 20 ⟨by decide, by decide⟩) cf_20 ml_L_46 im_7_order se_7_order in_7 cd_7_order hd7_order ⟨⟨rfl, rfl⟩, by decide, by decide⟩ ⟨show cells + 1 ≤ 600000 by omega, show slots + 7 ≤ 7302250 by omega⟩ hl.1 rfl (Nat.le_of_ble_eq_true rfl) dL_law_401 (fun H locs hB => ?_)
  refine lv_icmp_eq (tgt := 912) hx hb dL_law_404 (by decide) (fun _ => ?_) (fun z => absurd qa z)
  exact hk ad1 _ _ _ _ H locs ls (cells + 1) (slots + 7) hB hX qi hl (by omega) (by omega)
set_option maxHeartbeats 4000000 in
theorem lc_cancel (C0 : s_C p s m #[Value.ref b] meth c code 4 RL ret D aC) (hXs : va_X b L xs s s.heap) (hbl : b < s.heap.size) (hn : n < 512) (hv : ∀ k : Int32, 1 ≤ k → k ≤ 4 → vp_in (nI (5 * n) + k) L) (st : st_cancel Inv) (hB : s_B D aC ad X (fun q => s.heap.size ≤ q) S A G s.heap H locs) (hX : XI X G) (hI : Inv n S A G) (hl : lv_has ls 4 [(0, .ref b), (1, .ref (ad 0 0)), (2, .ref (ad 20 0)), (3, .int (nI (5 * n)))]) (hc : cells ≤ 230 + n) (hs : slots ≤ 8578 + 7 * n) (hk : lw_nx p l e s m below meth c D aC b Inv n) : W p l e room_1 s m #[Value.ref b] below meth c H locs cells slots (lw_Z below #[Value.ref b] s) (F0 m 409 ls []) := by
  obtain ⟨hx, hb, -⟩ := id C0
  have hbA : ¬ (fun q : Nat => s.heap.size ≤ q) b := fun z => absurd hbl (Nat.not_lt.mpr z)
  obtain ⟨q60, q61, q70, q71, qa, qi⟩ := st n S A G (xs ((nI (5 * n) + 1).toNatClampNeg)) hI hn
  refine lv_aload_n hx hb dL_law_409 rfl (lv_at hl 1 rfl) ?_
  refine lv_aload_n hx hb dL_law_410 rfl (lv_at hl 0 rfl) ?_
  refine lv_iload_n hx hb dL_law_411 rfl (lv_at hl 3 rfl) ?_
  refine lv_iconst (v := 1) hx hb dL_law_412 (by decide) ?_
  refine lv_iadd hx hb dL_law_413 ?_
  refine va_sld hx hb hXs hbl hbA hB.2.2.1 (hv 1 (by decide) (by decide)) dL_law_414 ?_
  refine sr_vi C0 hB (m6_cancel hX.1 (xs ((nI (5 * n) + 1).toNatClampNeg)) q60 q61) (hX.1.1 0 (by decide)) cf_0 ml_L_47 im_6_cancel se_6_cancel in_6 cd_6_cancel hd6_cancel ⟨⟨rfl, rfl⟩, by decide, by decide⟩ ⟨show cells ≤ 600000 by omega, show slots ≤ 7302250 by omega⟩ hl.1 rfl (Nat.le_of_ble_eq_true rfl) dL_law_415 (fun H locs hB => ?_)
  refine lv_aload_n hx hb dL_law_418 rfl (lv_at hl 2 rfl) ?_
  refine lv_aload_n hx hb dL_law_419 rfl (lv_at hl 0 rfl) ?_
  refine lv_iload_n hx hb dL_law_420 rfl (lv_at hl 3 rfl) ?_
  refine lv_iconst (v := 1) hx hb dL_law_421 (by decide) ?_
  refine lv_iadd hx hb dL_law_422 ?_
  refine va_sld hx hb hXs hbl hbA hB.2.2.1 (hv 1 (by decide) (by decide)) dL_law_423 ?_
  refine sr_vi C0 hB (m7_cancel hX.2.1 (xs ((nI (5 * n) + 1).toNatClampNeg)) q70 q71) (hX.2.1 20 ⟨by decide, by decide⟩) cf_20 ml_L_50 im_7_cancel se_7_cancel in_7 cd_7_cancel hd7_cancel ⟨⟨rfl, rfl⟩, by decide, by decide⟩ ⟨show cells ≤ 600000 by omega, show slots ≤ 7302250 by omega⟩ hl.1 rfl (Nat.le_of_ble_eq_true rfl) dL_law_424 (fun H locs hB => ?_)
  refine lv_icmp_eq (tgt := 912) hx hb dL_law_427 (by decide) (fun _ => ?_) (fun z => absurd qa z)
  exact hk ad _ _ _ _ H locs ls cells slots hB hX qi hl (by omega) (by omega)
set_option maxHeartbeats 4000000 in
theorem lc_begin (C0 : s_C p s m #[Value.ref b] meth c code 4 RL ret D aC) (hXs : va_X b L xs s s.heap) (hbl : b < s.heap.size) (hn : n < 512) (hv : ∀ k : Int32, 1 ≤ k → k ≤ 4 → vp_in (nI (5 * n) + k) L) (st : st_begin Inv) (hB : s_B D aC ad X (fun q => s.heap.size ≤ q) S A G s.heap H locs) (hX : XI X G) (hI : Inv n S A G) (hl : lv_has ls 4 [(0, .ref b), (1, .ref (ad 0 0)), (2, .ref (ad 20 0)), (3, .int (nI (5 * n)))]) (hc : cells ≤ 230 + n) (hs : slots ≤ 8578 + 7 * n) (hk : lw_nx p l e s m below meth c D aC b Inv n) : W p l e room_1 s m #[Value.ref b] below meth c H locs cells slots (lw_Z below #[Value.ref b] s) (F0 m 432 ls []) := by
  obtain ⟨hx, hb, -⟩ := id C0
  have hbA : ¬ (fun q : Nat => s.heap.size ≤ q) b := fun z => absurd hbl (Nat.not_lt.mpr z)
  obtain ⟨q60, q61, q62, q63, q70, q71, q72, q73, q74, q75, qa, qi⟩ := st n S A G (xs ((nI (5 * n) + 1).toNatClampNeg)) (xs ((nI (5 * n) + 2).toNatClampNeg)) hI hn
  refine lv_aload_n hx hb dL_law_432 rfl (lv_at hl 1 rfl) ?_
  refine lv_aload_n hx hb dL_law_433 rfl (lv_at hl 0 rfl) ?_
  refine lv_iload_n hx hb dL_law_434 rfl (lv_at hl 3 rfl) ?_
  refine lv_iconst (v := 1) hx hb dL_law_435 (by decide) ?_
  refine lv_iadd hx hb dL_law_436 ?_
  refine va_sld hx hb hXs hbl hbA hB.2.2.1 (hv 1 (by decide) (by decide)) dL_law_437 ?_
  refine lv_aload_n hx hb dL_law_438 rfl (lv_at hl 0 rfl) ?_
  refine lv_iload_n hx hb dL_law_439 rfl (lv_at hl 3 rfl) ?_
  refine lv_iconst (v := 2) hx hb dL_law_440 (by decide) ?_
  refine lv_iadd hx hb dL_law_441 ?_
  refine va_sld hx hb hXs hbl hbA hB.2.2.1 (hv 2 (by decide) (by decide)) dL_law_442 ?_
  refine sr_vi C0 hB (m6_begin hX.1 (xs ((nI (5 * n) + 1).toNatClampNeg)) (xs ((nI (5 * n) + 2).toNatClampNeg)) q60 q61 q62 q63) (hX.1.1 0 (by decide)) cf_0 ml_L_51 im_6_begin se_6_begin in_6 cd_6_begin hd6_begin ⟨⟨rfl, rfl⟩, by decide, by decide⟩ ⟨show cells ≤ 600000 by omega, show slots ≤ 7302250 by omega⟩ hl.1 rfl (Nat.le_of_ble_eq_true rfl) dL_law_443 (fun H locs hB => ?_)
  refine lv_aload_n hx hb dL_law_446 rfl (lv_at hl 2 rfl) ?_
  refine lv_aload_n hx hb dL_law_447 rfl (lv_at hl 0 rfl) ?_
  refine lv_iload_n hx hb dL_law_448 rfl (lv_at hl 3 rfl) ?_
  refine lv_iconst (v := 1) hx hb dL_law_449 (by decide) ?_
  refine lv_iadd hx hb dL_law_450 ?_
  refine va_sld hx hb hXs hbl hbA hB.2.2.1 (hv 1 (by decide) (by decide)) dL_law_451 ?_
  refine lv_aload_n hx hb dL_law_452 rfl (lv_at hl 0 rfl) ?_
  refine lv_iload_n hx hb dL_law_453 rfl (lv_at hl 3 rfl) ?_
  refine lv_iconst (v := 2) hx hb dL_law_454 (by decide) ?_
  refine lv_iadd hx hb dL_law_455 ?_
  refine va_sld hx hb hXs hbl hbA hB.2.2.1 (hv 2 (by decide) (by decide)) dL_law_456 ?_
  refine sr_vi C0 hB (m7_begin hX.2.1 (xs ((nI (5 * n) + 1).toNatClampNeg)) (xs ((nI (5 * n) + 2).toNatClampNeg)) q70 q71 q72 q73 q74 q75) (hX.2.1 20 ⟨by decide, by decide⟩) cf_20 ml_L_54 im_7_begin se_7_begin in_7 cd_7_begin hd7_begin ⟨⟨rfl, rfl⟩, by decide, by decide⟩ ⟨show cells ≤ 600000 by omega, show slots ≤ 7302250 by omega⟩ hl.1 rfl (Nat.le_of_ble_eq_true rfl) dL_law_457 (fun H locs hB => ?_)
  refine lv_icmp_eq (tgt := 912) hx hb dL_law_460 (by decide) (fun _ => ?_) (fun z => absurd qa z)
  exact hk ad _ _ _ _ H locs ls cells slots hB hX qi hl (by omega) (by omega)
set_option maxHeartbeats 4000000 in
theorem lc_count (C0 : s_C p s m #[Value.ref b] meth c code 4 RL ret D aC) (hXs : va_X b L xs s s.heap) (hbl : b < s.heap.size) (hn : n < 512) (hv : ∀ k : Int32, 1 ≤ k → k ≤ 4 → vp_in (nI (5 * n) + k) L) (st : st_count Inv) (hB : s_B D aC ad X (fun q => s.heap.size ≤ q) S A G s.heap H locs) (hX : XI X G) (hI : Inv n S A G) (hl : lv_has ls 4 [(0, .ref b), (1, .ref (ad 0 0)), (2, .ref (ad 20 0)), (3, .int (nI (5 * n)))]) (hc : cells ≤ 230 + n) (hs : slots ≤ 8578 + 7 * n) (hk : lw_nx p l e s m below meth c D aC b Inv n) : W p l e room_1 s m #[Value.ref b] below meth c H locs cells slots (lw_Z below #[Value.ref b] s) (F0 m 465 ls []) := by
  obtain ⟨hx, hb, -⟩ := id C0
  have hbA : ¬ (fun q : Nat => s.heap.size ≤ q) b := fun z => absurd hbl (Nat.not_lt.mpr z)
  obtain ⟨q60, q61, q62, q70, q71, q72, qa, qi⟩ := st n S A G (xs ((nI (5 * n) + 1).toNatClampNeg)) hI hn
  refine lv_aload_n hx hb dL_law_465 rfl (lv_at hl 1 rfl) ?_
  refine lv_aload_n hx hb dL_law_466 rfl (lv_at hl 0 rfl) ?_
  refine lv_iload_n hx hb dL_law_467 rfl (lv_at hl 3 rfl) ?_
  refine lv_iconst (v := 1) hx hb dL_law_468 (by decide) ?_
  refine lv_iadd hx hb dL_law_469 ?_
  refine va_sld hx hb hXs hbl hbA hB.2.2.1 (hv 1 (by decide) (by decide)) dL_law_470 ?_
  refine sr_vi C0 hB (m6_count hX.1 (xs ((nI (5 * n) + 1).toNatClampNeg)) q60 q61 q62) (hX.1.1 0 (by decide)) cf_0 ml_L_55 im_6_count se_6_count in_6 cd_6_count hd6_count ⟨⟨rfl, rfl⟩, by decide, by decide⟩ ⟨show cells ≤ 600000 by omega, show slots ≤ 7302250 by omega⟩ hl.1 rfl (Nat.le_of_ble_eq_true rfl) dL_law_471 (fun H locs hB => ?_)
  refine lv_aload_n hx hb dL_law_474 rfl (lv_at hl 2 rfl) ?_
  refine lv_aload_n hx hb dL_law_475 rfl (lv_at hl 0 rfl) ?_
  refine lv_iload_n hx hb dL_law_476 rfl (lv_at hl 3 rfl) ?_
  refine lv_iconst (v := 1) hx hb dL_law_477 (by decide) ?_
  refine lv_iadd hx hb dL_law_478 ?_
  refine va_sld hx hb hXs hbl hbA hB.2.2.1 (hv 1 (by decide) (by decide)) dL_law_479 ?_
  refine sr_vi C0 hB (m7_count hX.2.1 (xs ((nI (5 * n) + 1).toNatClampNeg)) q70 q71 q72) (hX.2.1 20 ⟨by decide, by decide⟩) cf_20 ml_L_58 im_7_count se_7_count in_7 cd_7_count hd7_count ⟨⟨rfl, rfl⟩, by decide, by decide⟩ ⟨show cells ≤ 600000 by omega, show slots ≤ 7302250 by omega⟩ hl.1 rfl (Nat.le_of_ble_eq_true rfl) dL_law_480 (fun H locs hB => ?_)
  refine lv_icmp_eq (tgt := 912) hx hb dL_law_483 (by decide) (fun _ => ?_) (fun z => absurd qa z)
  exact hk ad _ _ _ _ H locs ls cells slots hB hX qi hl (by omega) (by omega)
set_option maxHeartbeats 4000000 in
theorem lc_amount (C0 : s_C p s m #[Value.ref b] meth c code 4 RL ret D aC) (hXs : va_X b L xs s s.heap) (hbl : b < s.heap.size) (hn : n < 512) (hv : ∀ k : Int32, 1 ≤ k → k ≤ 4 → vp_in (nI (5 * n) + k) L) (st : st_amount Inv) (hB : s_B D aC ad X (fun q => s.heap.size ≤ q) S A G s.heap H locs) (hX : XI X G) (hI : Inv n S A G) (hl : lv_has ls 4 [(0, .ref b), (1, .ref (ad 0 0)), (2, .ref (ad 20 0)), (3, .int (nI (5 * n)))]) (hc : cells ≤ 230 + n) (hs : slots ≤ 8578 + 7 * n) (hk : lw_nx p l e s m below meth c D aC b Inv n) : W p l e room_1 s m #[Value.ref b] below meth c H locs cells slots (lw_Z below #[Value.ref b] s) (F0 m 488 ls []) := by
  obtain ⟨hx, hb, -⟩ := id C0
  have hbA : ¬ (fun q : Nat => s.heap.size ≤ q) b := fun z => absurd hbl (Nat.not_lt.mpr z)
  obtain ⟨q60, q61, q62, q63, q70, q71, q72, q73, q74, q75, qa, qi⟩ := st n S A G (xs ((nI (5 * n) + 1).toNatClampNeg)) (xs ((nI (5 * n) + 2).toNatClampNeg)) (xs ((nI (5 * n) + 3).toNatClampNeg)) hI hn
  refine lv_aload_n hx hb dL_law_488 rfl (lv_at hl 1 rfl) ?_
  refine lv_aload_n hx hb dL_law_489 rfl (lv_at hl 0 rfl) ?_
  refine lv_iload_n hx hb dL_law_490 rfl (lv_at hl 3 rfl) ?_
  refine lv_iconst (v := 1) hx hb dL_law_491 (by decide) ?_
  refine lv_iadd hx hb dL_law_492 ?_
  refine va_sld hx hb hXs hbl hbA hB.2.2.1 (hv 1 (by decide) (by decide)) dL_law_493 ?_
  refine lv_aload_n hx hb dL_law_494 rfl (lv_at hl 0 rfl) ?_
  refine lv_iload_n hx hb dL_law_495 rfl (lv_at hl 3 rfl) ?_
  refine lv_iconst (v := 2) hx hb dL_law_496 (by decide) ?_
  refine lv_iadd hx hb dL_law_497 ?_
  refine va_sld hx hb hXs hbl hbA hB.2.2.1 (hv 2 (by decide) (by decide)) dL_law_498 ?_
  refine lv_aload_n hx hb dL_law_499 rfl (lv_at hl 0 rfl) ?_
  refine lv_iload_n hx hb dL_law_500 rfl (lv_at hl 3 rfl) ?_
  refine lv_iconst (v := 3) hx hb dL_law_501 (by decide) ?_
  refine lv_iadd hx hb dL_law_502 ?_
  refine va_sld hx hb hXs hbl hbA hB.2.2.1 (hv 3 (by decide) (by decide)) dL_law_503 ?_
  refine sr_vi C0 hB (m6_amount hX.1 (xs ((nI (5 * n) + 1).toNatClampNeg)) (xs ((nI (5 * n) + 2).toNatClampNeg)) (xs ((nI (5 * n) + 3).toNatClampNeg)) q60 q61 q62 q63) (hX.1.1 0 (by decide)) cf_0 ml_L_59 im_6_amount se_6_amount in_6 cd_6_amount hd6_amount ⟨⟨rfl, rfl⟩, by decide, by decide⟩ ⟨show cells ≤ 600000 by omega, show slots ≤ 7302250 by omega⟩ hl.1 rfl (Nat.le_of_ble_eq_true rfl) dL_law_504 (fun H locs hB => ?_)
  refine lv_aload_n hx hb dL_law_507 rfl (lv_at hl 2 rfl) ?_
  refine lv_aload_n hx hb dL_law_508 rfl (lv_at hl 0 rfl) ?_
  refine lv_iload_n hx hb dL_law_509 rfl (lv_at hl 3 rfl) ?_
  refine lv_iconst (v := 1) hx hb dL_law_510 (by decide) ?_
  refine lv_iadd hx hb dL_law_511 ?_
  refine va_sld hx hb hXs hbl hbA hB.2.2.1 (hv 1 (by decide) (by decide)) dL_law_512 ?_
  refine lv_aload_n hx hb dL_law_513 rfl (lv_at hl 0 rfl) ?_
  refine lv_iload_n hx hb dL_law_514 rfl (lv_at hl 3 rfl) ?_
  refine lv_iconst (v := 2) hx hb dL_law_515 (by decide) ?_
  refine lv_iadd hx hb dL_law_516 ?_
  refine va_sld hx hb hXs hbl hbA hB.2.2.1 (hv 2 (by decide) (by decide)) dL_law_517 ?_
  refine lv_aload_n hx hb dL_law_518 rfl (lv_at hl 0 rfl) ?_
  refine lv_iload_n hx hb dL_law_519 rfl (lv_at hl 3 rfl) ?_
  refine lv_iconst (v := 3) hx hb dL_law_520 (by decide) ?_
  refine lv_iadd hx hb dL_law_521 ?_
  refine va_sld hx hb hXs hbl hbA hB.2.2.1 (hv 3 (by decide) (by decide)) dL_law_522 ?_
  refine sr_vi C0 hB (m7_amount hX.2.1 (xs ((nI (5 * n) + 1).toNatClampNeg)) (xs ((nI (5 * n) + 2).toNatClampNeg)) (xs ((nI (5 * n) + 3).toNatClampNeg)) q70 q71 q72 q73 q74 q75) (hX.2.1 20 ⟨by decide, by decide⟩) cf_20 ml_L_62 im_7_amount se_7_amount in_7 cd_7_amount hd7_amount ⟨⟨rfl, rfl⟩, by decide, by decide⟩ ⟨show cells ≤ 600000 by omega, show slots ≤ 7302250 by omega⟩ hl.1 rfl (Nat.le_of_ble_eq_true rfl) dL_law_523 (fun H locs hB => ?_)
  refine lv_icmp_eq (tgt := 912) hx hb dL_law_526 (by decide) (fun _ => ?_) (fun z => absurd qa z)
  exact hk ad _ _ _ _ H locs ls cells slots hB hX qi hl (by omega) (by omega)
set_option maxHeartbeats 4000000 in
theorem lc_shut (C0 : s_C p s m #[Value.ref b] meth c code 4 RL ret D aC) (hXs : va_X b L xs s s.heap) (hbl : b < s.heap.size) (hn : n < 512) (hv : ∀ k : Int32, 1 ≤ k → k ≤ 4 → vp_in (nI (5 * n) + k) L) (st : st_shut Inv) (hB : s_B D aC ad X (fun q => s.heap.size ≤ q) S A G s.heap H locs) (hX : XI X G) (hI : Inv n S A G) (hl : lv_has ls 4 [(0, .ref b), (1, .ref (ad 0 0)), (2, .ref (ad 20 0)), (3, .int (nI (5 * n)))]) (hc : cells ≤ 230 + n) (hs : slots ≤ 8578 + 7 * n) (hk : lw_nx p l e s m below meth c D aC b Inv n) : W p l e room_1 s m #[Value.ref b] below meth c H locs cells slots (lw_Z below #[Value.ref b] s) (F0 m 531 ls []) := by
  obtain ⟨hx, hb, -⟩ := id C0
  have hbA : ¬ (fun q : Nat => s.heap.size ≤ q) b := fun z => absurd hbl (Nat.not_lt.mpr z)
  obtain ⟨qa, qi⟩ := st n S A G  hI hn
  refine lv_aload_n hx hb dL_law_531 rfl (lv_at hl 1 rfl) ?_
  refine sr_vi C0 hB (m6_shut hX.1) (hX.1.1 0 (by decide)) cf_0 ml_L_63 im_6_shut se_6_shut in_6 cd_6_shut hd6_shut ⟨⟨rfl, rfl⟩, by decide, by decide⟩ ⟨show cells ≤ 600000 by omega, show slots ≤ 7302250 by omega⟩ hl.1 rfl (Nat.le_of_ble_eq_true rfl) dL_law_532 (fun H locs hB => ?_)
  refine lv_aload_n hx hb dL_law_535 rfl (lv_at hl 2 rfl) ?_
  refine sr_vi C0 hB (m7_shut hX.2.1) (hX.2.1 20 ⟨by decide, by decide⟩) cf_20 ml_L_66 im_7_shut se_7_shut in_7 cd_7_shut hd7_shut ⟨⟨rfl, rfl⟩, by decide, by decide⟩ ⟨show cells ≤ 600000 by omega, show slots ≤ 7302250 by omega⟩ hl.1 rfl (Nat.le_of_ble_eq_true rfl) dL_law_536 (fun H locs hB => ?_)
  refine lv_icmp_eq (tgt := 912) hx hb dL_law_539 (by decide) (fun _ => ?_) (fun z => absurd qa z)
  exact hk ad _ _ _ _ H locs ls cells slots hB hX qi hl (by omega) (by omega)
set_option maxHeartbeats 4000000 in
theorem lc_giveBack (C0 : s_C p s m #[Value.ref b] meth c code 4 RL ret D aC) (hXs : va_X b L xs s s.heap) (hbl : b < s.heap.size) (hn : n < 512) (hv : ∀ k : Int32, 1 ≤ k → k ≤ 4 → vp_in (nI (5 * n) + k) L) (st : st_giveBack Inv) (hB : s_B D aC ad X (fun q => s.heap.size ≤ q) S A G s.heap H locs) (hX : XI X G) (hI : Inv n S A G) (hl : lv_has ls 4 [(0, .ref b), (1, .ref (ad 0 0)), (2, .ref (ad 20 0)), (3, .int (nI (5 * n)))]) (hc : cells ≤ 230 + n) (hs : slots ≤ 8578 + 7 * n) (hk : lw_nx p l e s m below meth c D aC b Inv n) : W p l e room_1 s m #[Value.ref b] below meth c H locs cells slots (lw_Z below #[Value.ref b] s) (F0 m 544 ls []) := by
  obtain ⟨hx, hb, -⟩ := id C0
  have hbA : ¬ (fun q : Nat => s.heap.size ≤ q) b := fun z => absurd hbl (Nat.not_lt.mpr z)
  obtain ⟨q60, q70, q71, qa, qi⟩ := st n S A G (xs ((nI (5 * n) + 1).toNatClampNeg)) (xs ((nI (5 * n) + 2).toNatClampNeg)) hI hn
  refine lv_aload_n hx hb dL_law_544 rfl (lv_at hl 1 rfl) ?_
  refine lv_aload_n hx hb dL_law_545 rfl (lv_at hl 0 rfl) ?_
  refine lv_iload_n hx hb dL_law_546 rfl (lv_at hl 3 rfl) ?_
  refine lv_iconst (v := 1) hx hb dL_law_547 (by decide) ?_
  refine lv_iadd hx hb dL_law_548 ?_
  refine va_sld hx hb hXs hbl hbA hB.2.2.1 (hv 1 (by decide) (by decide)) dL_law_549 ?_
  refine lv_aload_n hx hb dL_law_550 rfl (lv_at hl 0 rfl) ?_
  refine lv_iload_n hx hb dL_law_551 rfl (lv_at hl 3 rfl) ?_
  refine lv_iconst (v := 2) hx hb dL_law_552 (by decide) ?_
  refine lv_iadd hx hb dL_law_553 ?_
  refine va_sld hx hb hXs hbl hbA hB.2.2.1 (hv 2 (by decide) (by decide)) dL_law_554 ?_
  refine sr_vi C0 hB (m6_giveBack hX.1 (xs ((nI (5 * n) + 1).toNatClampNeg)) (xs ((nI (5 * n) + 2).toNatClampNeg)) q60) (hX.1.1 0 (by decide)) cf_0 ml_L_67 im_6_giveBack se_6_giveBack in_6 cd_6_giveBack hd6_giveBack ⟨⟨rfl, rfl⟩, by decide, by decide⟩ ⟨show cells ≤ 600000 by omega, show slots ≤ 7302250 by omega⟩ hl.1 rfl (Nat.le_of_ble_eq_true rfl) dL_law_555 (fun H locs hB => ?_)
  refine lv_aload_n hx hb dL_law_558 rfl (lv_at hl 2 rfl) ?_
  refine lv_aload_n hx hb dL_law_559 rfl (lv_at hl 0 rfl) ?_
  refine lv_iload_n hx hb dL_law_560 rfl (lv_at hl 3 rfl) ?_
  refine lv_iconst (v := 1) hx hb dL_law_561 (by decide) ?_
  refine lv_iadd hx hb dL_law_562 ?_
  refine va_sld hx hb hXs hbl hbA hB.2.2.1 (hv 1 (by decide) (by decide)) dL_law_563 ?_
  refine lv_aload_n hx hb dL_law_564 rfl (lv_at hl 0 rfl) ?_
  refine lv_iload_n hx hb dL_law_565 rfl (lv_at hl 3 rfl) ?_
  refine lv_iconst (v := 2) hx hb dL_law_566 (by decide) ?_
  refine lv_iadd hx hb dL_law_567 ?_
  refine va_sld hx hb hXs hbl hbA hB.2.2.1 (hv 2 (by decide) (by decide)) dL_law_568 ?_
  refine sr_vi C0 hB (m7_giveBack hX.2.1 (xs ((nI (5 * n) + 1).toNatClampNeg)) (xs ((nI (5 * n) + 2).toNatClampNeg)) q70 q71) (hX.2.1 20 ⟨by decide, by decide⟩) cf_20 ml_L_70 im_7_giveBack se_7_giveBack in_7 cd_7_giveBack hd7_giveBack ⟨⟨rfl, rfl⟩, by decide, by decide⟩ ⟨show cells ≤ 600000 by omega, show slots ≤ 7302250 by omega⟩ hl.1 rfl (Nat.le_of_ble_eq_true rfl) dL_law_569 (fun H locs hB => ?_)
  refine lv_icmp_eq (tgt := 912) hx hb dL_law_572 (by decide) (fun _ => ?_) (fun z => absurd qa z)
  exact hk ad _ _ _ _ H locs ls cells slots hB hX qi hl (by omega) (by omega)
set_option maxHeartbeats 4000000 in
theorem lc_reconcile (C0 : s_C p s m #[Value.ref b] meth c code 4 RL ret D aC) (hXs : va_X b L xs s s.heap) (hbl : b < s.heap.size) (hn : n < 512) (hv : ∀ k : Int32, 1 ≤ k → k ≤ 4 → vp_in (nI (5 * n) + k) L) (st : st_reconcile Inv) (hB : s_B D aC ad X (fun q => s.heap.size ≤ q) S A G s.heap H locs) (hX : XI X G) (hI : Inv n S A G) (hl : lv_has ls 4 [(0, .ref b), (1, .ref (ad 0 0)), (2, .ref (ad 20 0)), (3, .int (nI (5 * n)))]) (hc : cells ≤ 230 + n) (hs : slots ≤ 8578 + 7 * n) (hk : lw_nx p l e s m below meth c D aC b Inv n) : W p l e room_1 s m #[Value.ref b] below meth c H locs cells slots (lw_Z below #[Value.ref b] s) (F0 m 577 ls []) := by
  obtain ⟨hx, hb, -⟩ := id C0
  have hbA : ¬ (fun q : Nat => s.heap.size ≤ q) b := fun z => absurd hbl (Nat.not_lt.mpr z)
  obtain ⟨q60, q70, q71, q72, qa, qi⟩ := st n S A G  hI hn
  refine lv_aload_n hx hb dL_law_577 rfl (lv_at hl 1 rfl) ?_
  refine sr_vi C0 hB (m6_reconcile hX.1 q60) (hX.1.1 0 (by decide)) cf_0 ml_L_71 im_6_reconcile se_6_reconcile in_6 cd_6_reconcile hd6_reconcile ⟨⟨rfl, rfl⟩, by decide, by decide⟩ ⟨show cells ≤ 600000 by omega, show slots ≤ 7302250 by omega⟩ hl.1 rfl (Nat.le_of_ble_eq_true rfl) dL_law_578 (fun H locs hB => ?_)
  refine lv_aload_n hx hb dL_law_581 rfl (lv_at hl 2 rfl) ?_
  refine sr_vi C0 hB (m7_reconcile hX.2.1 q70 q71 q72) (hX.2.1 20 ⟨by decide, by decide⟩) cf_20 ml_L_74 im_7_reconcile se_7_reconcile in_7 cd_7_reconcile hd7_reconcile ⟨⟨rfl, rfl⟩, by decide, by decide⟩ ⟨show cells ≤ 600000 by omega, show slots ≤ 7302250 by omega⟩ hl.1 rfl (Nat.le_of_ble_eq_true rfl) dL_law_582 (fun H locs hB => ?_)
  refine lv_icmp_eq (tgt := 912) hx hb dL_law_585 (by decide) (fun _ => ?_) (fun z => absurd qa z)
  exact hk ad _ _ _ _ H locs ls cells slots hB hX qi hl (by omega) (by omega)
set_option maxHeartbeats 4000000 in
theorem lc_mismatch (C0 : s_C p s m #[Value.ref b] meth c code 4 RL ret D aC) (hXs : va_X b L xs s s.heap) (hbl : b < s.heap.size) (hn : n < 512) (hv : ∀ k : Int32, 1 ≤ k → k ≤ 4 → vp_in (nI (5 * n) + k) L) (st : st_mismatch Inv) (hB : s_B D aC ad X (fun q => s.heap.size ≤ q) S A G s.heap H locs) (hX : XI X G) (hI : Inv n S A G) (hl : lv_has ls 4 [(0, .ref b), (1, .ref (ad 0 0)), (2, .ref (ad 20 0)), (3, .int (nI (5 * n)))]) (hc : cells ≤ 230 + n) (hs : slots ≤ 8578 + 7 * n) (hk : lw_nx p l e s m below meth c D aC b Inv n) : W p l e room_1 s m #[Value.ref b] below meth c H locs cells slots (lw_Z below #[Value.ref b] s) (F0 m 590 ls []) := by
  obtain ⟨hx, hb, -⟩ := id C0
  have hbA : ¬ (fun q : Nat => s.heap.size ≤ q) b := fun z => absurd hbl (Nat.not_lt.mpr z)
  obtain ⟨q60, q70, qa, qi⟩ := st n S A G (xs ((nI (5 * n) + 1).toNatClampNeg)) hI hn
  refine lv_aload_n hx hb dL_law_590 rfl (lv_at hl 1 rfl) ?_
  refine lv_aload_n hx hb dL_law_591 rfl (lv_at hl 0 rfl) ?_
  refine lv_iload_n hx hb dL_law_592 rfl (lv_at hl 3 rfl) ?_
  refine lv_iconst (v := 1) hx hb dL_law_593 (by decide) ?_
  refine lv_iadd hx hb dL_law_594 ?_
  refine va_sld hx hb hXs hbl hbA hB.2.2.1 (hv 1 (by decide) (by decide)) dL_law_595 ?_
  refine sr_vp C0 hB (m6_mismatch hX.1 (xs ((nI (5 * n) + 1).toNatClampNeg)) q60) (hX.1.1 0 (by decide)) cf_0 ml_L_75 im_6_mismatch se_6_mismatch in_6 cd_6_mismatch hd6_mismatch ⟨⟨rfl, rfl⟩, by decide, by decide⟩ ⟨show cells ≤ 600000 by omega, show slots ≤ 7302250 by omega⟩ hl.1 rfl (Nat.le_of_ble_eq_true rfl) dL_law_596 ?_
  refine lv_aload_n hx hb dL_law_599 rfl (lv_at hl 2 rfl) ?_
  refine lv_aload_n hx hb dL_law_600 rfl (lv_at hl 0 rfl) ?_
  refine lv_iload_n hx hb dL_law_601 rfl (lv_at hl 3 rfl) ?_
  refine lv_iconst (v := 1) hx hb dL_law_602 (by decide) ?_
  refine lv_iadd hx hb dL_law_603 ?_
  refine va_sld hx hb hXs hbl hbA hB.2.2.1 (hv 1 (by decide) (by decide)) dL_law_604 ?_
  refine sr_vp C0 hB (m7_mismatch hX.2.1 (xs ((nI (5 * n) + 1).toNatClampNeg)) q70) (hX.2.1 20 ⟨by decide, by decide⟩) cf_20 ml_L_78 im_7_mismatch se_7_mismatch in_7 cd_7_mismatch hd7_mismatch ⟨⟨rfl, rfl⟩, by decide, by decide⟩ ⟨show cells ≤ 600000 by omega, show slots ≤ 7302250 by omega⟩ hl.1 rfl (Nat.le_of_ble_eq_true rfl) dL_law_605 ?_
  refine lv_icmp_eq (tgt := 912) hx hb dL_law_608 (by decide) (fun _ => ?_) (fun z => absurd qa z)
  exact hk ad _ _ _ _ H locs ls cells slots hB hX qi hl (by omega) (by omega)
set_option maxHeartbeats 4000000 in
theorem lc_bin (C0 : s_C p s m #[Value.ref b] meth c code 4 RL ret D aC) (hXs : va_X b L xs s s.heap) (hbl : b < s.heap.size) (hn : n < 512) (hv : ∀ k : Int32, 1 ≤ k → k ≤ 4 → vp_in (nI (5 * n) + k) L) (st : st_bin Inv) (hB : s_B D aC ad X (fun q => s.heap.size ≤ q) S A G s.heap H locs) (hX : XI X G) (hI : Inv n S A G) (hl : lv_has ls 4 [(0, .ref b), (1, .ref (ad 0 0)), (2, .ref (ad 20 0)), (3, .int (nI (5 * n)))]) (hc : cells ≤ 230 + n) (hs : slots ≤ 8578 + 7 * n) (hk : lw_nx p l e s m below meth c D aC b Inv n) : W p l e room_1 s m #[Value.ref b] below meth c H locs cells slots (lw_Z below #[Value.ref b] s) (F0 m 613 ls []) := by
  obtain ⟨hx, hb, -⟩ := id C0
  have hbA : ¬ (fun q : Nat => s.heap.size ≤ q) b := fun z => absurd hbl (Nat.not_lt.mpr z)
  obtain ⟨q60, q70, qa, qi⟩ := st n S A G (xs ((nI (5 * n) + 1).toNatClampNeg)) (xs ((nI (5 * n) + 2).toNatClampNeg)) hI hn
  refine lv_aload_n hx hb dL_law_613 rfl (lv_at hl 1 rfl) ?_
  refine lv_aload_n hx hb dL_law_614 rfl (lv_at hl 0 rfl) ?_
  refine lv_iload_n hx hb dL_law_615 rfl (lv_at hl 3 rfl) ?_
  refine lv_iconst (v := 1) hx hb dL_law_616 (by decide) ?_
  refine lv_iadd hx hb dL_law_617 ?_
  refine va_sld hx hb hXs hbl hbA hB.2.2.1 (hv 1 (by decide) (by decide)) dL_law_618 ?_
  refine lv_aload_n hx hb dL_law_619 rfl (lv_at hl 0 rfl) ?_
  refine lv_iload_n hx hb dL_law_620 rfl (lv_at hl 3 rfl) ?_
  refine lv_iconst (v := 2) hx hb dL_law_621 (by decide) ?_
  refine lv_iadd hx hb dL_law_622 ?_
  refine va_sld hx hb hXs hbl hbA hB.2.2.1 (hv 2 (by decide) (by decide)) dL_law_623 ?_
  refine sr_vp C0 hB (m6_bin hX.1 (xs ((nI (5 * n) + 1).toNatClampNeg)) (xs ((nI (5 * n) + 2).toNatClampNeg)) q60) (hX.1.1 0 (by decide)) cf_0 ml_L_79 im_6_bin se_6_bin in_6 cd_6_bin hd6_bin ⟨⟨rfl, rfl⟩, by decide, by decide⟩ ⟨show cells ≤ 600000 by omega, show slots ≤ 7302250 by omega⟩ hl.1 rfl (Nat.le_of_ble_eq_true rfl) dL_law_624 ?_
  refine lv_aload_n hx hb dL_law_627 rfl (lv_at hl 2 rfl) ?_
  refine lv_aload_n hx hb dL_law_628 rfl (lv_at hl 0 rfl) ?_
  refine lv_iload_n hx hb dL_law_629 rfl (lv_at hl 3 rfl) ?_
  refine lv_iconst (v := 1) hx hb dL_law_630 (by decide) ?_
  refine lv_iadd hx hb dL_law_631 ?_
  refine va_sld hx hb hXs hbl hbA hB.2.2.1 (hv 1 (by decide) (by decide)) dL_law_632 ?_
  refine lv_aload_n hx hb dL_law_633 rfl (lv_at hl 0 rfl) ?_
  refine lv_iload_n hx hb dL_law_634 rfl (lv_at hl 3 rfl) ?_
  refine lv_iconst (v := 2) hx hb dL_law_635 (by decide) ?_
  refine lv_iadd hx hb dL_law_636 ?_
  refine va_sld hx hb hXs hbl hbA hB.2.2.1 (hv 2 (by decide) (by decide)) dL_law_637 ?_
  refine sr_vp C0 hB (m7_bin hX.2.1 (xs ((nI (5 * n) + 1).toNatClampNeg)) (xs ((nI (5 * n) + 2).toNatClampNeg)) q70) (hX.2.1 20 ⟨by decide, by decide⟩) cf_20 ml_L_82 im_7_bin se_7_bin in_7 cd_7_bin hd7_bin ⟨⟨rfl, rfl⟩, by decide, by decide⟩ ⟨show cells ≤ 600000 by omega, show slots ≤ 7302250 by omega⟩ hl.1 rfl (Nat.le_of_ble_eq_true rfl) dL_law_638 ?_
  refine lv_icmp_eq (tgt := 912) hx hb dL_law_641 (by decide) (fun _ => ?_) (fun z => absurd qa z)
  exact hk ad _ _ _ _ H locs ls cells slots hB hX qi hl (by omega) (by omega)
set_option maxHeartbeats 4000000 in
theorem lc_lot (C0 : s_C p s m #[Value.ref b] meth c code 4 RL ret D aC) (hXs : va_X b L xs s s.heap) (hbl : b < s.heap.size) (hn : n < 512) (hv : ∀ k : Int32, 1 ≤ k → k ≤ 4 → vp_in (nI (5 * n) + k) L) (st : st_lot Inv) (hB : s_B D aC ad X (fun q => s.heap.size ≤ q) S A G s.heap H locs) (hX : XI X G) (hI : Inv n S A G) (hl : lv_has ls 4 [(0, .ref b), (1, .ref (ad 0 0)), (2, .ref (ad 20 0)), (3, .int (nI (5 * n)))]) (hc : cells ≤ 230 + n) (hs : slots ≤ 8578 + 7 * n) (hk : lw_nx p l e s m below meth c D aC b Inv n) : W p l e room_1 s m #[Value.ref b] below meth c H locs cells slots (lw_Z below #[Value.ref b] s) (F0 m 646 ls []) := by
  obtain ⟨hx, hb, -⟩ := id C0
  have hbA : ¬ (fun q : Nat => s.heap.size ≤ q) b := fun z => absurd hbl (Nat.not_lt.mpr z)
  obtain ⟨q60, q70, qa, qi⟩ := st n S A G (xs ((nI (5 * n) + 1).toNatClampNeg)) (xs ((nI (5 * n) + 2).toNatClampNeg)) (zb (xs ((nI (5 * n) + 3).toNatClampNeg))) hI hn (zb_01 _)
  refine lv_aload_n hx hb dL_law_646 rfl (lv_at hl 1 rfl) ?_
  refine lv_aload_n hx hb dL_law_647 rfl (lv_at hl 0 rfl) ?_
  refine lv_iload_n hx hb dL_law_648 rfl (lv_at hl 3 rfl) ?_
  refine lv_iconst (v := 1) hx hb dL_law_649 (by decide) ?_
  refine lv_iadd hx hb dL_law_650 ?_
  refine va_sld hx hb hXs hbl hbA hB.2.2.1 (hv 1 (by decide) (by decide)) dL_law_651 ?_
  refine lv_aload_n hx hb dL_law_652 rfl (lv_at hl 0 rfl) ?_
  refine lv_iload_n hx hb dL_law_653 rfl (lv_at hl 3 rfl) ?_
  refine lv_iconst (v := 2) hx hb dL_law_654 (by decide) ?_
  refine lv_iadd hx hb dL_law_655 ?_
  refine va_sld hx hb hXs hbl hbA hB.2.2.1 (hv 2 (by decide) (by decide)) dL_law_656 ?_
  refine lv_aload_n hx hb dL_law_657 rfl (lv_at hl 0 rfl) ?_
  refine lv_iload_n hx hb dL_law_658 rfl (lv_at hl 3 rfl) ?_
  refine lv_iconst (v := 3) hx hb dL_law_659 (by decide) ?_
  refine lv_iadd hx hb dL_law_660 ?_
  refine va_sld hx hb hXs hbl hbA hB.2.2.1 (hv 3 (by decide) (by decide)) dL_law_661 ?_
  refine lw_z (t1 := 669) (t2 := 670) hx hb dL_law_662 dL_law_665 dL_law_666 dL_law_669 (by decide) (by decide) rfl ?_
  refine sr_vp C0 hB (m6_lot hX.1 (xs ((nI (5 * n) + 1).toNatClampNeg)) (xs ((nI (5 * n) + 2).toNatClampNeg)) (zb (xs ((nI (5 * n) + 3).toNatClampNeg))) q60) (hX.1.1 0 (by decide)) cf_0 ml_L_83 im_6_lot se_6_lot in_6 cd_6_lot hd6_lot ⟨⟨rfl, rfl⟩, by decide, by decide⟩ ⟨show cells ≤ 600000 by omega, show slots ≤ 7302250 by omega⟩ hl.1 rfl (Nat.le_of_ble_eq_true rfl) dL_law_670 ?_
  refine lv_aload_n hx hb dL_law_673 rfl (lv_at hl 2 rfl) ?_
  refine lv_aload_n hx hb dL_law_674 rfl (lv_at hl 0 rfl) ?_
  refine lv_iload_n hx hb dL_law_675 rfl (lv_at hl 3 rfl) ?_
  refine lv_iconst (v := 1) hx hb dL_law_676 (by decide) ?_
  refine lv_iadd hx hb dL_law_677 ?_
  refine va_sld hx hb hXs hbl hbA hB.2.2.1 (hv 1 (by decide) (by decide)) dL_law_678 ?_
  refine lv_aload_n hx hb dL_law_679 rfl (lv_at hl 0 rfl) ?_
  refine lv_iload_n hx hb dL_law_680 rfl (lv_at hl 3 rfl) ?_
  refine lv_iconst (v := 2) hx hb dL_law_681 (by decide) ?_
  refine lv_iadd hx hb dL_law_682 ?_
  refine va_sld hx hb hXs hbl hbA hB.2.2.1 (hv 2 (by decide) (by decide)) dL_law_683 ?_
  refine lv_aload_n hx hb dL_law_684 rfl (lv_at hl 0 rfl) ?_
  refine lv_iload_n hx hb dL_law_685 rfl (lv_at hl 3 rfl) ?_
  refine lv_iconst (v := 3) hx hb dL_law_686 (by decide) ?_
  refine lv_iadd hx hb dL_law_687 ?_
  refine va_sld hx hb hXs hbl hbA hB.2.2.1 (hv 3 (by decide) (by decide)) dL_law_688 ?_
  refine lw_z (t1 := 696) (t2 := 697) hx hb dL_law_689 dL_law_692 dL_law_693 dL_law_696 (by decide) (by decide) rfl ?_
  refine sr_vp C0 hB (m7_lot hX.2.1 (xs ((nI (5 * n) + 1).toNatClampNeg)) (xs ((nI (5 * n) + 2).toNatClampNeg)) (zb (xs ((nI (5 * n) + 3).toNatClampNeg))) q70) (hX.2.1 20 ⟨by decide, by decide⟩) cf_20 ml_L_87 im_7_lot se_7_lot in_7 cd_7_lot hd7_lot ⟨⟨rfl, rfl⟩, by decide, by decide⟩ ⟨show cells ≤ 600000 by omega, show slots ≤ 7302250 by omega⟩ hl.1 rfl (Nat.le_of_ble_eq_true rfl) dL_law_697 ?_
  refine lv_icmp_eq (tgt := 912) hx hb dL_law_700 (by decide) (fun _ => ?_) (fun z => absurd qa z)
  exact hk ad _ _ _ _ H locs ls cells slots hB hX qi hl (by omega) (by omega)
set_option maxHeartbeats 4000000 in
theorem lc_stock (C0 : s_C p s m #[Value.ref b] meth c code 4 RL ret D aC) (hXs : va_X b L xs s s.heap) (hbl : b < s.heap.size) (hn : n < 512) (hv : ∀ k : Int32, 1 ≤ k → k ≤ 4 → vp_in (nI (5 * n) + k) L) (st : st_stock Inv) (hB : s_B D aC ad X (fun q => s.heap.size ≤ q) S A G s.heap H locs) (hX : XI X G) (hI : Inv n S A G) (hl : lv_has ls 4 [(0, .ref b), (1, .ref (ad 0 0)), (2, .ref (ad 20 0)), (3, .int (nI (5 * n)))]) (hc : cells ≤ 230 + n) (hs : slots ≤ 8578 + 7 * n) (hk : lw_nx p l e s m below meth c D aC b Inv n) : W p l e room_1 s m #[Value.ref b] below meth c H locs cells slots (lw_Z below #[Value.ref b] s) (F0 m 705 ls []) := by
  obtain ⟨hx, hb, -⟩ := id C0
  have hbA : ¬ (fun q : Nat => s.heap.size ≤ q) b := fun z => absurd hbl (Nat.not_lt.mpr z)
  obtain ⟨q60, q70, qa, qi⟩ := st n S A G (xs ((nI (5 * n) + 1).toNatClampNeg)) (xs ((nI (5 * n) + 2).toNatClampNeg)) hI hn
  refine lv_aload_n hx hb dL_law_705 rfl (lv_at hl 1 rfl) ?_
  refine lv_aload_n hx hb dL_law_706 rfl (lv_at hl 0 rfl) ?_
  refine lv_iload_n hx hb dL_law_707 rfl (lv_at hl 3 rfl) ?_
  refine lv_iconst (v := 1) hx hb dL_law_708 (by decide) ?_
  refine lv_iadd hx hb dL_law_709 ?_
  refine va_sld hx hb hXs hbl hbA hB.2.2.1 (hv 1 (by decide) (by decide)) dL_law_710 ?_
  refine lv_aload_n hx hb dL_law_711 rfl (lv_at hl 0 rfl) ?_
  refine lv_iload_n hx hb dL_law_712 rfl (lv_at hl 3 rfl) ?_
  refine lv_iconst (v := 2) hx hb dL_law_713 (by decide) ?_
  refine lv_iadd hx hb dL_law_714 ?_
  refine va_sld hx hb hXs hbl hbA hB.2.2.1 (hv 2 (by decide) (by decide)) dL_law_715 ?_
  refine sr_vp C0 hB (m6_stock hX.1 (xs ((nI (5 * n) + 1).toNatClampNeg)) (xs ((nI (5 * n) + 2).toNatClampNeg)) q60) (hX.1.1 0 (by decide)) cf_0 ml_L_88 im_6_stock se_6_stock in_6 cd_6_stock hd6_stock ⟨⟨rfl, rfl⟩, by decide, by decide⟩ ⟨show cells ≤ 600000 by omega, show slots ≤ 7302250 by omega⟩ hl.1 rfl (Nat.le_of_ble_eq_true rfl) dL_law_716 ?_
  refine lv_aload_n hx hb dL_law_719 rfl (lv_at hl 2 rfl) ?_
  refine lv_aload_n hx hb dL_law_720 rfl (lv_at hl 0 rfl) ?_
  refine lv_iload_n hx hb dL_law_721 rfl (lv_at hl 3 rfl) ?_
  refine lv_iconst (v := 1) hx hb dL_law_722 (by decide) ?_
  refine lv_iadd hx hb dL_law_723 ?_
  refine va_sld hx hb hXs hbl hbA hB.2.2.1 (hv 1 (by decide) (by decide)) dL_law_724 ?_
  refine lv_aload_n hx hb dL_law_725 rfl (lv_at hl 0 rfl) ?_
  refine lv_iload_n hx hb dL_law_726 rfl (lv_at hl 3 rfl) ?_
  refine lv_iconst (v := 2) hx hb dL_law_727 (by decide) ?_
  refine lv_iadd hx hb dL_law_728 ?_
  refine va_sld hx hb hXs hbl hbA hB.2.2.1 (hv 2 (by decide) (by decide)) dL_law_729 ?_
  refine sr_vp C0 hB (m7_stock hX.2.1 (xs ((nI (5 * n) + 1).toNatClampNeg)) (xs ((nI (5 * n) + 2).toNatClampNeg)) q70) (hX.2.1 20 ⟨by decide, by decide⟩) cf_20 ml_L_91 im_7_stock se_7_stock in_7 cd_7_stock hd7_stock ⟨⟨rfl, rfl⟩, by decide, by decide⟩ ⟨show cells ≤ 600000 by omega, show slots ≤ 7302250 by omega⟩ hl.1 rfl (Nat.le_of_ble_eq_true rfl) dL_law_730 ?_
  refine lv_icmp_eq (tgt := 912) hx hb dL_law_733 (by decide) (fun _ => ?_) (fun z => absurd qa z)
  exact hk ad _ _ _ _ H locs ls cells slots hB hX qi hl (by omega) (by omega)
set_option maxHeartbeats 4000000 in
theorem lc_wanted (C0 : s_C p s m #[Value.ref b] meth c code 4 RL ret D aC) (hXs : va_X b L xs s s.heap) (hbl : b < s.heap.size) (hn : n < 512) (hv : ∀ k : Int32, 1 ≤ k → k ≤ 4 → vp_in (nI (5 * n) + k) L) (st : st_wanted Inv) (hB : s_B D aC ad X (fun q => s.heap.size ≤ q) S A G s.heap H locs) (hX : XI X G) (hI : Inv n S A G) (hl : lv_has ls 4 [(0, .ref b), (1, .ref (ad 0 0)), (2, .ref (ad 20 0)), (3, .int (nI (5 * n)))]) (hc : cells ≤ 230 + n) (hs : slots ≤ 8578 + 7 * n) (hk : lw_nx p l e s m below meth c D aC b Inv n) : W p l e room_1 s m #[Value.ref b] below meth c H locs cells slots (lw_Z below #[Value.ref b] s) (F0 m 738 ls []) := by
  obtain ⟨hx, hb, -⟩ := id C0
  have hbA : ¬ (fun q : Nat => s.heap.size ≤ q) b := fun z => absurd hbl (Nat.not_lt.mpr z)
  obtain ⟨q60, q70, qa, qi⟩ := st n S A G (xs ((nI (5 * n) + 1).toNatClampNeg)) hI hn
  refine lv_aload_n hx hb dL_law_738 rfl (lv_at hl 1 rfl) ?_
  refine lv_aload_n hx hb dL_law_739 rfl (lv_at hl 0 rfl) ?_
  refine lv_iload_n hx hb dL_law_740 rfl (lv_at hl 3 rfl) ?_
  refine lv_iconst (v := 1) hx hb dL_law_741 (by decide) ?_
  refine lv_iadd hx hb dL_law_742 ?_
  refine va_sld hx hb hXs hbl hbA hB.2.2.1 (hv 1 (by decide) (by decide)) dL_law_743 ?_
  refine sr_vp C0 hB (m6_wanted hX.1 (xs ((nI (5 * n) + 1).toNatClampNeg)) q60) (hX.1.1 0 (by decide)) cf_0 ml_L_92 im_6_wanted se_6_wanted in_6 cd_6_wanted hd6_wanted ⟨⟨rfl, rfl⟩, by decide, by decide⟩ ⟨show cells ≤ 600000 by omega, show slots ≤ 7302250 by omega⟩ hl.1 rfl (Nat.le_of_ble_eq_true rfl) dL_law_744 ?_
  refine lv_aload_n hx hb dL_law_747 rfl (lv_at hl 2 rfl) ?_
  refine lv_aload_n hx hb dL_law_748 rfl (lv_at hl 0 rfl) ?_
  refine lv_iload_n hx hb dL_law_749 rfl (lv_at hl 3 rfl) ?_
  refine lv_iconst (v := 1) hx hb dL_law_750 (by decide) ?_
  refine lv_iadd hx hb dL_law_751 ?_
  refine va_sld hx hb hXs hbl hbA hB.2.2.1 (hv 1 (by decide) (by decide)) dL_law_752 ?_
  refine sr_vp C0 hB (m7_wanted hX.2.1 (xs ((nI (5 * n) + 1).toNatClampNeg)) q70) (hX.2.1 20 ⟨by decide, by decide⟩) cf_20 ml_L_95 im_7_wanted se_7_wanted in_7 cd_7_wanted hd7_wanted ⟨⟨rfl, rfl⟩, by decide, by decide⟩ ⟨show cells ≤ 600000 by omega, show slots ≤ 7302250 by omega⟩ hl.1 rfl (Nat.le_of_ble_eq_true rfl) dL_law_753 ?_
  refine lv_icmp_eq (tgt := 912) hx hb dL_law_756 (by decide) (fun _ => ?_) (fun z => absurd qa z)
  exact hk ad _ _ _ _ H locs ls cells slots hB hX qi hl (by omega) (by omega)
set_option maxHeartbeats 4000000 in
theorem lc_orderTold (C0 : s_C p s m #[Value.ref b] meth c code 4 RL ret D aC) (hXs : va_X b L xs s s.heap) (hbl : b < s.heap.size) (hn : n < 512) (hv : ∀ k : Int32, 1 ≤ k → k ≤ 4 → vp_in (nI (5 * n) + k) L) (st : st_orderTold Inv) (hB : s_B D aC ad X (fun q => s.heap.size ≤ q) S A G s.heap H locs) (hX : XI X G) (hI : Inv n S A G) (hl : lv_has ls 4 [(0, .ref b), (1, .ref (ad 0 0)), (2, .ref (ad 20 0)), (3, .int (nI (5 * n)))]) (hc : cells ≤ 230 + n) (hs : slots ≤ 8578 + 7 * n) (hk : lw_nx p l e s m below meth c D aC b Inv n) : W p l e room_1 s m #[Value.ref b] below meth c H locs cells slots (lw_Z below #[Value.ref b] s) (F0 m 761 ls []) := by
  obtain ⟨hx, hb, -⟩ := id C0
  have hbA : ¬ (fun q : Nat => s.heap.size ≤ q) b := fun z => absurd hbl (Nat.not_lt.mpr z)
  obtain ⟨q60, q61, q70, qa, qi⟩ := st n S A G (xs ((nI (5 * n) + 1).toNatClampNeg)) (xs ((nI (5 * n) + 2).toNatClampNeg)) hI hn
  refine lv_aload_n hx hb dL_law_761 rfl (lv_at hl 1 rfl) ?_
  refine lv_aload_n hx hb dL_law_762 rfl (lv_at hl 0 rfl) ?_
  refine lv_iload_n hx hb dL_law_763 rfl (lv_at hl 3 rfl) ?_
  refine lv_iconst (v := 1) hx hb dL_law_764 (by decide) ?_
  refine lv_iadd hx hb dL_law_765 ?_
  refine va_sld hx hb hXs hbl hbA hB.2.2.1 (hv 1 (by decide) (by decide)) dL_law_766 ?_
  refine lv_aload_n hx hb dL_law_767 rfl (lv_at hl 0 rfl) ?_
  refine lv_iload_n hx hb dL_law_768 rfl (lv_at hl 3 rfl) ?_
  refine lv_iconst (v := 2) hx hb dL_law_769 (by decide) ?_
  refine lv_iadd hx hb dL_law_770 ?_
  refine va_sld hx hb hXs hbl hbA hB.2.2.1 (hv 2 (by decide) (by decide)) dL_law_771 ?_
  refine sr_vp C0 hB (m6_orderTold hX.1 (xs ((nI (5 * n) + 1).toNatClampNeg)) (xs ((nI (5 * n) + 2).toNatClampNeg)) q60 q61) (hX.1.1 0 (by decide)) cf_0 ml_L_96 im_6_orderTold se_6_orderTold in_6 cd_6_orderTold hd6_orderTold ⟨⟨rfl, rfl⟩, by decide, by decide⟩ ⟨show cells ≤ 600000 by omega, show slots ≤ 7302250 by omega⟩ hl.1 rfl (Nat.le_of_ble_eq_true rfl) dL_law_772 ?_
  refine lv_aload_n hx hb dL_law_775 rfl (lv_at hl 2 rfl) ?_
  refine lv_aload_n hx hb dL_law_776 rfl (lv_at hl 0 rfl) ?_
  refine lv_iload_n hx hb dL_law_777 rfl (lv_at hl 3 rfl) ?_
  refine lv_iconst (v := 1) hx hb dL_law_778 (by decide) ?_
  refine lv_iadd hx hb dL_law_779 ?_
  refine va_sld hx hb hXs hbl hbA hB.2.2.1 (hv 1 (by decide) (by decide)) dL_law_780 ?_
  refine lv_aload_n hx hb dL_law_781 rfl (lv_at hl 0 rfl) ?_
  refine lv_iload_n hx hb dL_law_782 rfl (lv_at hl 3 rfl) ?_
  refine lv_iconst (v := 2) hx hb dL_law_783 (by decide) ?_
  refine lv_iadd hx hb dL_law_784 ?_
  refine va_sld hx hb hXs hbl hbA hB.2.2.1 (hv 2 (by decide) (by decide)) dL_law_785 ?_
  refine sr_vp C0 hB (m7_orderTold hX.2.1 (xs ((nI (5 * n) + 1).toNatClampNeg)) (xs ((nI (5 * n) + 2).toNatClampNeg)) q70) (hX.2.1 20 ⟨by decide, by decide⟩) cf_20 ml_L_99 im_7_orderTold se_7_orderTold in_7 cd_7_orderTold hd7_orderTold ⟨⟨rfl, rfl⟩, by decide, by decide⟩ ⟨show cells ≤ 600000 by omega, show slots ≤ 7302250 by omega⟩ hl.1 rfl (Nat.le_of_ble_eq_true rfl) dL_law_786 ?_
  refine lv_icmp_eq (tgt := 912) hx hb dL_law_789 (by decide) (fun _ => ?_) (fun z => absurd qa z)
  exact hk ad _ _ _ _ H locs ls cells slots hB hX qi hl (by omega) (by omega)
set_option maxHeartbeats 4000000 in
theorem lc_alarms (C0 : s_C p s m #[Value.ref b] meth c code 4 RL ret D aC) (hXs : va_X b L xs s s.heap) (hbl : b < s.heap.size) (hn : n < 512) (hv : ∀ k : Int32, 1 ≤ k → k ≤ 4 → vp_in (nI (5 * n) + k) L) (st : st_alarms Inv) (hB : s_B D aC ad X (fun q => s.heap.size ≤ q) S A G s.heap H locs) (hX : XI X G) (hI : Inv n S A G) (hl : lv_has ls 4 [(0, .ref b), (1, .ref (ad 0 0)), (2, .ref (ad 20 0)), (3, .int (nI (5 * n)))]) (hc : cells ≤ 230 + n) (hs : slots ≤ 8578 + 7 * n) (hk : lw_nx p l e s m below meth c D aC b Inv n) : W p l e room_1 s m #[Value.ref b] below meth c H locs cells slots (lw_Z below #[Value.ref b] s) (F0 m 794 ls []) := by
  obtain ⟨hx, hb, -⟩ := id C0
  have hbA : ¬ (fun q : Nat => s.heap.size ≤ q) b := fun z => absurd hbl (Nat.not_lt.mpr z)
  obtain ⟨q60, q70, qa, qi⟩ := st n S A G  hI hn
  refine lv_aload_n hx hb dL_law_794 rfl (lv_at hl 1 rfl) ?_
  refine sr_vp C0 hB (m6_alarms hX.1 q60) (hX.1.1 0 (by decide)) cf_0 ml_L_100 im_6_alarms se_6_alarms in_6 cd_6_alarms hd6_alarms ⟨⟨rfl, rfl⟩, by decide, by decide⟩ ⟨show cells ≤ 600000 by omega, show slots ≤ 7302250 by omega⟩ hl.1 rfl (Nat.le_of_ble_eq_true rfl) dL_law_795 ?_
  refine lv_aload_n hx hb dL_law_798 rfl (lv_at hl 2 rfl) ?_
  refine sr_vp C0 hB (m7_alarms hX.2.1 q70) (hX.2.1 20 ⟨by decide, by decide⟩) cf_20 ml_L_103 im_7_alarms se_7_alarms in_7 cd_7_alarms hd7_alarms ⟨⟨rfl, rfl⟩, by decide, by decide⟩ ⟨show cells ≤ 600000 by omega, show slots ≤ 7302250 by omega⟩ hl.1 rfl (Nat.le_of_ble_eq_true rfl) dL_law_799 ?_
  refine lv_icmp_eq (tgt := 912) hx hb dL_law_802 (by decide) (fun _ => ?_) (fun z => absurd qa z)
  exact hk ad _ _ _ _ H locs ls cells slots hB hX qi hl (by omega) (by omega)
set_option maxHeartbeats 4000000 in
theorem lc_told (C0 : s_C p s m #[Value.ref b] meth c code 4 RL ret D aC) (hXs : va_X b L xs s s.heap) (hbl : b < s.heap.size) (hn : n < 512) (hv : ∀ k : Int32, 1 ≤ k → k ≤ 4 → vp_in (nI (5 * n) + k) L) (st : st_told Inv) (hB : s_B D aC ad X (fun q => s.heap.size ≤ q) S A G s.heap H locs) (hX : XI X G) (hI : Inv n S A G) (hl : lv_has ls 4 [(0, .ref b), (1, .ref (ad 0 0)), (2, .ref (ad 20 0)), (3, .int (nI (5 * n)))]) (hc : cells ≤ 230 + n) (hs : slots ≤ 8578 + 7 * n) (hk : lw_nx p l e s m below meth c D aC b Inv n) : W p l e room_1 s m #[Value.ref b] below meth c H locs cells slots (lw_Z below #[Value.ref b] s) (F0 m 807 ls []) := by
  obtain ⟨hx, hb, -⟩ := id C0
  have hbA : ¬ (fun q : Nat => s.heap.size ≤ q) b := fun z => absurd hbl (Nat.not_lt.mpr z)
  obtain ⟨qa, qi⟩ := st n S A G (xs ((nI (5 * n) + 1).toNatClampNeg)) hI hn
  refine lv_aload_n hx hb dL_law_807 rfl (lv_at hl 1 rfl) ?_
  refine lv_aload_n hx hb dL_law_808 rfl (lv_at hl 0 rfl) ?_
  refine lv_iload_n hx hb dL_law_809 rfl (lv_at hl 3 rfl) ?_
  refine lv_iconst (v := 1) hx hb dL_law_810 (by decide) ?_
  refine lv_iadd hx hb dL_law_811 ?_
  refine va_sld hx hb hXs hbl hbA hB.2.2.1 (hv 1 (by decide) (by decide)) dL_law_812 ?_
  refine sr_vp C0 hB (m6_told hX.1 (xs ((nI (5 * n) + 1).toNatClampNeg))) (hX.1.1 0 (by decide)) cf_0 ml_L_104 im_6_told se_6_told in_6 cd_6_told hd6_told ⟨⟨rfl, rfl⟩, by decide, by decide⟩ ⟨show cells ≤ 600000 by omega, show slots ≤ 7302250 by omega⟩ hl.1 rfl (Nat.le_of_ble_eq_true rfl) dL_law_813 ?_
  refine lv_aload_n hx hb dL_law_816 rfl (lv_at hl 2 rfl) ?_
  refine lv_aload_n hx hb dL_law_817 rfl (lv_at hl 0 rfl) ?_
  refine lv_iload_n hx hb dL_law_818 rfl (lv_at hl 3 rfl) ?_
  refine lv_iconst (v := 1) hx hb dL_law_819 (by decide) ?_
  refine lv_iadd hx hb dL_law_820 ?_
  refine va_sld hx hb hXs hbl hbA hB.2.2.1 (hv 1 (by decide) (by decide)) dL_law_821 ?_
  refine sr_vp C0 hB (m7_told hX.2.1 (xs ((nI (5 * n) + 1).toNatClampNeg))) (hX.2.1 20 ⟨by decide, by decide⟩) cf_20 ml_L_107 im_7_told se_7_told in_7 cd_7_told hd7_told ⟨⟨rfl, rfl⟩, by decide, by decide⟩ ⟨show cells ≤ 600000 by omega, show slots ≤ 7302250 by omega⟩ hl.1 rfl (Nat.le_of_ble_eq_true rfl) dL_law_822 ?_
  refine lv_icmp_eq (tgt := 912) hx hb dL_law_825 (by decide) (fun _ => ?_) (fun z => absurd qa z)
  exact hk ad _ _ _ _ H locs ls cells slots hB hX qi hl (by omega) (by omega)
set_option maxHeartbeats 4000000 in
theorem lc_entry (C0 : s_C p s m #[Value.ref b] meth c code 4 RL ret D aC) (hXs : va_X b L xs s s.heap) (hbl : b < s.heap.size) (hn : n < 512) (hv : ∀ k : Int32, 1 ≤ k → k ≤ 4 → vp_in (nI (5 * n) + k) L) (st : st_entry Inv) (hB : s_B D aC ad X (fun q => s.heap.size ≤ q) S A G s.heap H locs) (hX : XI X G) (hI : Inv n S A G) (hl : lv_has ls 4 [(0, .ref b), (1, .ref (ad 0 0)), (2, .ref (ad 20 0)), (3, .int (nI (5 * n)))]) (hc : cells ≤ 230 + n) (hs : slots ≤ 8578 + 7 * n) (hk : lw_nx p l e s m below meth c D aC b Inv n) : W p l e room_1 s m #[Value.ref b] below meth c H locs cells slots (lw_Z below #[Value.ref b] s) (F0 m 830 ls []) := by
  obtain ⟨hx, hb, -⟩ := id C0
  have hbA : ¬ (fun q : Nat => s.heap.size ≤ q) b := fun z => absurd hbl (Nat.not_lt.mpr z)
  obtain ⟨q60, q70, qa, qi⟩ := st n S A G (xs ((nI (5 * n) + 1).toNatClampNeg)) (xs ((nI (5 * n) + 2).toNatClampNeg)) hI hn
  refine lv_aload_n hx hb dL_law_830 rfl (lv_at hl 1 rfl) ?_
  refine lv_aload_n hx hb dL_law_831 rfl (lv_at hl 0 rfl) ?_
  refine lv_iload_n hx hb dL_law_832 rfl (lv_at hl 3 rfl) ?_
  refine lv_iconst (v := 1) hx hb dL_law_833 (by decide) ?_
  refine lv_iadd hx hb dL_law_834 ?_
  refine va_sld hx hb hXs hbl hbA hB.2.2.1 (hv 1 (by decide) (by decide)) dL_law_835 ?_
  refine lv_aload_n hx hb dL_law_836 rfl (lv_at hl 0 rfl) ?_
  refine lv_iload_n hx hb dL_law_837 rfl (lv_at hl 3 rfl) ?_
  refine lv_iconst (v := 2) hx hb dL_law_838 (by decide) ?_
  refine lv_iadd hx hb dL_law_839 ?_
  refine va_sld hx hb hXs hbl hbA hB.2.2.1 (hv 2 (by decide) (by decide)) dL_law_840 ?_
  refine sr_vp C0 hB (m6_entry hX.1 (xs ((nI (5 * n) + 1).toNatClampNeg)) (xs ((nI (5 * n) + 2).toNatClampNeg)) q60) (hX.1.1 0 (by decide)) cf_0 ml_L_108 im_6_entry se_6_entry in_6 cd_6_entry hd6_entry ⟨⟨rfl, rfl⟩, by decide, by decide⟩ ⟨show cells ≤ 600000 by omega, show slots ≤ 7302250 by omega⟩ hl.1 rfl (Nat.le_of_ble_eq_true rfl) dL_law_841 ?_
  refine lv_aload_n hx hb dL_law_844 rfl (lv_at hl 2 rfl) ?_
  refine lv_aload_n hx hb dL_law_845 rfl (lv_at hl 0 rfl) ?_
  refine lv_iload_n hx hb dL_law_846 rfl (lv_at hl 3 rfl) ?_
  refine lv_iconst (v := 1) hx hb dL_law_847 (by decide) ?_
  refine lv_iadd hx hb dL_law_848 ?_
  refine va_sld hx hb hXs hbl hbA hB.2.2.1 (hv 1 (by decide) (by decide)) dL_law_849 ?_
  refine lv_aload_n hx hb dL_law_850 rfl (lv_at hl 0 rfl) ?_
  refine lv_iload_n hx hb dL_law_851 rfl (lv_at hl 3 rfl) ?_
  refine lv_iconst (v := 2) hx hb dL_law_852 (by decide) ?_
  refine lv_iadd hx hb dL_law_853 ?_
  refine va_sld hx hb hXs hbl hbA hB.2.2.1 (hv 2 (by decide) (by decide)) dL_law_854 ?_
  refine sr_vp C0 hB (m7_entry hX.2.1 (xs ((nI (5 * n) + 1).toNatClampNeg)) (xs ((nI (5 * n) + 2).toNatClampNeg)) q70) (hX.2.1 20 ⟨by decide, by decide⟩) cf_20 ml_L_111 im_7_entry se_7_entry in_7 cd_7_entry hd7_entry ⟨⟨rfl, rfl⟩, by decide, by decide⟩ ⟨show cells ≤ 600000 by omega, show slots ≤ 7302250 by omega⟩ hl.1 rfl (Nat.le_of_ble_eq_true rfl) dL_law_855 ?_
  refine lv_icmp_eq (tgt := 912) hx hb dL_law_858 (by decide) (fun _ => ?_) (fun z => absurd qa z)
  exact hk ad _ _ _ _ H locs ls cells slots hB hX qi hl (by omega) (by omega)
set_option maxHeartbeats 4000000 in
theorem lc_lose (C0 : s_C p s m #[Value.ref b] meth c code 4 RL ret D aC) (hXs : va_X b L xs s s.heap) (hbl : b < s.heap.size) (hn : n < 512) (hv : ∀ k : Int32, 1 ≤ k → k ≤ 4 → vp_in (nI (5 * n) + k) L) (st : st_lose Inv) (hB : s_B D aC ad X (fun q => s.heap.size ≤ q) S A G s.heap H locs) (hX : XI X G) (hI : Inv n S A G) (hl : lv_has ls 4 [(0, .ref b), (1, .ref (ad 0 0)), (2, .ref (ad 20 0)), (3, .int (nI (5 * n)))]) (hc : cells ≤ 230 + n) (hs : slots ≤ 8578 + 7 * n) (hk : lw_nx p l e s m below meth c D aC b Inv n) : W p l e room_1 s m #[Value.ref b] below meth c H locs cells slots (lw_Z below #[Value.ref b] s) (F0 m 863 ls []) := by
  obtain ⟨hx, hb, -⟩ := id C0
  have hbA : ¬ (fun q : Nat => s.heap.size ≤ q) b := fun z => absurd hbl (Nat.not_lt.mpr z)
  obtain ⟨qa, qi⟩ := st n S A G (xs ((nI (5 * n) + 1).toNatClampNeg)) hI hn
  refine lv_aload_n hx hb dL_law_863 rfl (lv_at hl 1 rfl) ?_
  refine lv_aload_n hx hb dL_law_864 rfl (lv_at hl 0 rfl) ?_
  refine lv_iload_n hx hb dL_law_865 rfl (lv_at hl 3 rfl) ?_
  refine lv_iconst (v := 1) hx hb dL_law_866 (by decide) ?_
  refine lv_iadd hx hb dL_law_867 ?_
  refine va_sld hx hb hXs hbl hbA hB.2.2.1 (hv 1 (by decide) (by decide)) dL_law_868 ?_
  refine sr_vi C0 hB (m6_lose hX.1 (xs ((nI (5 * n) + 1).toNatClampNeg))) (hX.1.1 0 (by decide)) cf_0 ml_L_112 im_6_lose se_6_lose in_6 cd_6_lose hd6_lose ⟨⟨rfl, rfl⟩, by decide, by decide⟩ ⟨show cells ≤ 600000 by omega, show slots ≤ 7302250 by omega⟩ hl.1 rfl (Nat.le_of_ble_eq_true rfl) dL_law_869 (fun H locs hB => ?_)
  refine lv_aload_n hx hb dL_law_872 rfl (lv_at hl 2 rfl) ?_
  refine lv_aload_n hx hb dL_law_873 rfl (lv_at hl 0 rfl) ?_
  refine lv_iload_n hx hb dL_law_874 rfl (lv_at hl 3 rfl) ?_
  refine lv_iconst (v := 1) hx hb dL_law_875 (by decide) ?_
  refine lv_iadd hx hb dL_law_876 ?_
  refine va_sld hx hb hXs hbl hbA hB.2.2.1 (hv 1 (by decide) (by decide)) dL_law_877 ?_
  refine sr_vi C0 hB (m7_lose hX.2.1 (xs ((nI (5 * n) + 1).toNatClampNeg))) (hX.2.1 20 ⟨by decide, by decide⟩) cf_20 ml_L_115 im_7_lose se_7_lose in_7 cd_7_lose hd7_lose ⟨⟨rfl, rfl⟩, by decide, by decide⟩ ⟨show cells ≤ 600000 by omega, show slots ≤ 7302250 by omega⟩ hl.1 rfl (Nat.le_of_ble_eq_true rfl) dL_law_878 (fun H locs hB => ?_)
  refine lv_icmp_eq (tgt := 912) hx hb dL_law_881 (by decide) (fun _ => ?_) (fun z => absurd qa z)
  exact hk ad _ _ _ _ H locs ls cells slots hB hX qi hl (by omega) (by omega)
set_option maxHeartbeats 4000000 in
theorem lc_repair (C0 : s_C p s m #[Value.ref b] meth c code 4 RL ret D aC) (hXs : va_X b L xs s s.heap) (hbl : b < s.heap.size) (hn : n < 512) (hv : ∀ k : Int32, 1 ≤ k → k ≤ 4 → vp_in (nI (5 * n) + k) L) (st : st_repair Inv) (hB : s_B D aC ad X (fun q => s.heap.size ≤ q) S A G s.heap H locs) (hX : XI X G) (hI : Inv n S A G) (hl : lv_has ls 4 [(0, .ref b), (1, .ref (ad 0 0)), (2, .ref (ad 20 0)), (3, .int (nI (5 * n)))]) (hc : cells ≤ 230 + n) (hs : slots ≤ 8578 + 7 * n) (hk : lw_nx p l e s m below meth c D aC b Inv n) : W p l e room_1 s m #[Value.ref b] below meth c H locs cells slots (lw_Z below #[Value.ref b] s) (F0 m 886 ls []) := by
  obtain ⟨hx, hb, -⟩ := id C0
  have hbA : ¬ (fun q : Nat => s.heap.size ≤ q) b := fun z => absurd hbl (Nat.not_lt.mpr z)
  obtain ⟨q60, qa, qi⟩ := st n S A G  hI hn
  refine lv_aload_n hx hb dL_law_886 rfl (lv_at hl 1 rfl) ?_
  refine sr_vi C0 hB (m6_repair hX.1 q60) (hX.1.1 0 (by decide)) cf_0 ml_L_116 im_6_repair se_6_repair in_6 cd_6_repair hd6_repair ⟨⟨rfl, rfl⟩, by decide, by decide⟩ ⟨show cells ≤ 600000 by omega, show slots ≤ 7302250 by omega⟩ hl.1 rfl (Nat.le_of_ble_eq_true rfl) dL_law_887 (fun H locs hB => ?_)
  refine lv_aload_n hx hb dL_law_890 rfl (lv_at hl 2 rfl) ?_
  refine sr_vi C0 hB (m7_repair hX.2.1) (hX.2.1 20 ⟨by decide, by decide⟩) cf_20 ml_L_119 im_7_repair se_7_repair in_7 cd_7_repair hd7_repair ⟨⟨rfl, rfl⟩, by decide, by decide⟩ ⟨show cells ≤ 600000 by omega, show slots ≤ 7302250 by omega⟩ hl.1 rfl (Nat.le_of_ble_eq_true rfl) dL_law_891 (fun H locs hB => ?_)
  refine lv_icmp_eq (tgt := 912) hx hb dL_law_894 (by decide) (fun _ => ?_) (fun z => absurd qa z)
  exact hk ad _ _ _ _ H locs ls cells slots hB hX qi hl (by omega) (by omega)
set_option maxHeartbeats 4000000 in
theorem lc_audit (C0 : s_C p s m #[Value.ref b] meth c code 4 RL ret D aC) (hXs : va_X b L xs s s.heap) (hbl : b < s.heap.size) (hn : n < 512) (hv : ∀ k : Int32, 1 ≤ k → k ≤ 4 → vp_in (nI (5 * n) + k) L) (st : st_audit Inv) (hB : s_B D aC ad X (fun q => s.heap.size ≤ q) S A G s.heap H locs) (hX : XI X G) (hI : Inv n S A G) (hl : lv_has ls 4 [(0, .ref b), (1, .ref (ad 0 0)), (2, .ref (ad 20 0)), (3, .int (nI (5 * n)))]) (hc : cells ≤ 230 + n) (hs : slots ≤ 8578 + 7 * n) (hk : lw_nx p l e s m below meth c D aC b Inv n) : W p l e room_1 s m #[Value.ref b] below meth c H locs cells slots (lw_Z below #[Value.ref b] s) (F0 m 899 ls []) := by
  obtain ⟨hx, hb, -⟩ := id C0
  have hbA : ¬ (fun q : Nat => s.heap.size ≤ q) b := fun z => absurd hbl (Nat.not_lt.mpr z)
  obtain ⟨q60, q61, q70, q71, qa, qi⟩ := st n S A G  hI hn
  refine lv_aload_n hx hb dL_law_899 rfl (lv_at hl 1 rfl) ?_
  refine sr_vi C0 hB (m6_audit hX.1 q60 q61) (hX.1.1 0 (by decide)) cf_0 ml_L_120 im_6_audit se_6_audit in_6 cd_6_audit hd6_audit ⟨⟨rfl, rfl⟩, by decide, by decide⟩ ⟨show cells ≤ 600000 by omega, show slots ≤ 7302250 by omega⟩ hl.1 rfl (Nat.le_of_ble_eq_true rfl) dL_law_900 (fun H locs hB => ?_)
  refine lv_aload_n hx hb dL_law_903 rfl (lv_at hl 2 rfl) ?_
  refine sr_vp C0 hB (m7_audit hX.2.1 q70 q71) (hX.2.1 20 ⟨by decide, by decide⟩) cf_20 ml_L_123 im_7_audit se_7_audit in_7 cd_7_audit hd7_audit ⟨⟨rfl, rfl⟩, by decide, by decide⟩ ⟨show cells ≤ 600000 by omega, show slots ≤ 7302250 by omega⟩ hl.1 rfl (Nat.le_of_ble_eq_true rfl) dL_law_904 ?_
  refine lv_icmp_eq (tgt := 912) hx hb dL_law_907 (by decide) (fun _ => ?_) (fun z => absurd qa z)
  exact hk ad _ _ _ _ H locs ls cells slots hB hX qi hl (by omega) (by omega)
end LCASE
