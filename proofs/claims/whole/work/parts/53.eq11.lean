/-! the class writes its own families, the reference its own -/
theorem hi_0 {S : sS} {n k : Nat} {v : Int32} : hi (up3 S 0 n k v) = hi S := hi_up (by decide)
theorem hi_5 {S : sS} {n k : Nat} {v : Int32} : hi (up3 S 5 n k v) = hi S := hi_up (by decide)
theorem hi_6 {S : sS} {n k : Nat} {v : Int32} : hi (up3 S 6 n k v) = hi S := hi_up (by decide)
theorem hi_7 {S : sS} {n k : Nat} {v : Int32} : hi (up3 S 7 n k v) = hi S := hi_up (by decide)
theorem hi_8 {S : sS} {n k : Nat} {v : Int32} : hi (up3 S 8 n k v) = hi S := hi_up (by decide)
theorem hi_9 {S : sS} {n k : Nat} {v : Int32} : hi (up3 S 9 n k v) = hi S := hi_up (by decide)
theorem hi_11 {S : sS} {n k : Nat} {v : Int32} : hi (up3 S 11 n k v) = hi S := hi_up (by decide)
theorem hi_12 {S : sS} {n k : Nat} {v : Int32} : hi (up3 S 12 n k v) = hi S := hi_up (by decide)
theorem hi_13 {S : sS} {n k : Nat} {v : Int32} : hi (up3 S 13 n k v) = hi S := hi_up (by decide)
theorem hi_14 {S : sS} {n k : Nat} {v : Int32} : hi (up3 S 14 n k v) = hi S := hi_up (by decide)
theorem hi_15 {S : sS} {n k : Nat} {v : Int32} : hi (up3 S 15 n k v) = hi S := hi_up (by decide)
theorem hi_16 {S : sS} {n k : Nat} {v : Int32} : hi (up3 S 16 n k v) = hi S := hi_up (by decide)
theorem hi_17 {S : sS} {n k : Nat} {v : Int32} : hi (up3 S 17 n k v) = hi S := hi_up (by decide)
theorem lo_20 {S : sS} {n k : Nat} {v : Int32} : lo (up3 S 20 n k v) = lo S := lo_up (by decide)
theorem lo_22 {S : sS} {n k : Nat} {v : Int32} : lo (up3 S 22 n k v) = lo S := lo_up (by decide)
theorem lo_23 {S : sS} {n k : Nat} {v : Int32} : lo (up3 S 23 n k v) = lo S := lo_up (by decide)
theorem lo_24 {S : sS} {n k : Nat} {v : Int32} : lo (up3 S 24 n k v) = lo S := lo_up (by decide)
theorem lo_25 {S : sS} {n k : Nat} {v : Int32} : lo (up3 S 25 n k v) = lo S := lo_up (by decide)
theorem lo_26 {S : sS} {n k : Nat} {v : Int32} : lo (up3 S 26 n k v) = lo S := lo_up (by decide)
theorem lo_31 {S : sS} {n k : Nat} {v : Int32} : lo (up3 S 31 n k v) = lo S := lo_up (by decide)
theorem lo_32 {S : sS} {n k : Nat} {v : Int32} : lo (up3 S 32 n k v) = lo S := lo_up (by decide)
theorem lo_33 {S : sS} {n k : Nat} {v : Int32} : lo (up3 S 33 n k v) = lo S := lo_up (by decide)
theorem lo_34 {S : sS} {n k : Nat} {v : Int32} : lo (up3 S 34 n k v) = lo S := lo_up (by decide)
theorem lo_35 {S : sS} {n k : Nat} {v : Int32} : lo (up3 S 35 n k v) = lo S := lo_up (by decide)
theorem lo_36 {S : sS} {n k : Nat} {v : Int32} : lo (up3 S 36 n k v) = lo S := lo_up (by decide)
theorem lo_37 {S : sS} {n k : Nat} {v : Int32} : lo (up3 S 37 n k v) = lo S := lo_up (by decide)
theorem lo_38 {S : sS} {n k : Nat} {v : Int32} : lo (up3 S 38 n k v) = lo S := lo_up (by decide)
theorem lo_39 {S : sS} {n k : Nat} {v : Int32} : lo (up3 S 39 n k v) = lo S := lo_up (by decide)
theorem lo_40 {S : sS} {n k : Nat} {v : Int32} : lo (up3 S 40 n k v) = lo S := lo_up (by decide)
theorem lo_42 {S : sS} {n k : Nat} {v : Int32} : lo (up3 S 42 n k v) = lo S := lo_up (by decide)
theorem lo_43 {S : sS} {n k : Nat} {v : Int32} : lo (up3 S 43 n k v) = lo S := lo_up (by decide)
theorem lo_44 {S : sS} {n k : Nat} {v : Int32} : lo (up3 S 44 n k v) = lo S := lo_up (by decide)
theorem lo_45 {S : sS} {n k : Nat} {v : Int32} : lo (up3 S 45 n k v) = lo S := lo_up (by decide)
theorem lo_46 {S : sS} {n k : Nat} {v : Int32} : lo (up3 S 46 n k v) = lo S := lo_up (by decide)
theorem lo_47 {S : sS} {n k : Nat} {v : Int32} : lo (up3 S 47 n k v) = lo S := lo_up (by decide)
theorem lo_56 {S : sS} {n k : Nat} {v : Int32} : lo (up3 S 56 n k v) = lo S := lo_up (by decide)
theorem lo_57 {S : sS} {n k : Nat} {v : Int32} : lo (up3 S 57 n k v) = lo S := lo_up (by decide)
theorem lo_59 {S : sS} {n k : Nat} {v : Int32} : lo (up3 S 59 n k v) = lo S := lo_up (by decide)

theorem hi_o12 {S : sS} {n : Nat} {vs : List Int32} : hi (upO S 12 n vs) = hi S := hi_upO (by decide)
theorem hi_o13 {S : sS} {n : Nat} {vs : List Int32} : hi (upO S 13 n vs) = hi S := hi_upO (by decide)
theorem hi_o14 {S : sS} {n : Nat} {vs : List Int32} : hi (upO S 14 n vs) = hi S := hi_upO (by decide)
theorem hi_cp {A : sS} {a b k : Nat} : hi (cpA A 11 a b k) = hi A := by
  funext f m i
  unfold hi
  split
  · unfold cpA
    exact if_neg (fun z => by omega)
  · rfl
theorem frB_hi {b : Nat} {S A S1 A1 : sS} (h : frB b S A S1 A1) : hi S1 = hi S ∧ hi A1 = hi A := by
  constructor
  · funext f m i
    unfold hi
    split
    · exact h.1 f m i (fun z => by omega)
    · rfl
  · funext f m i
    unfold hi
    split
    · exact h.2 f m i (fun z => by omega)
    · rfl
theorem hi_wrA {A : sS} {k : Nat} {x1 x2 x3 x4 x5 x6 : Int32} : hi (wrA A k x1 x2 x3 x4 x5 x6) = hi A := by
  funext f m i
  unfold hi
  split
  · exact wr_n (fun z => by omega)
  · rfl
def hf (S A : sS) (o : sS × sS) : Prop := hi o.1 = hi S ∧ hi o.2 = hi A
def hf3 (S A : sS) (o : Int32 × sS × sS) : Prop := hi o.2.1 = hi S ∧ hi o.2.2 = hi A
def hf4 (S A : sS) (o : Int32 × sS × sS × Option Nat) : Prop := hi o.2.1 = hi S ∧ hi o.2.2.1 = hi A
def lf (S A : sS) (o : sS × sS) : Prop := lo o.1 = lo S ∧ lo o.2 = lo A
def lf3 (S A : sS) (o : Int32 × sS × sS) : Prop := lo o.2.1 = lo S ∧ lo o.2.2 = lo A
theorem hf_i {S A : sS} {c : Prop} [Decidable c] {a b : sS × sS} (h1 : hf S A a) (h2 : hf S A b) : hf S A (if c then a else b) := by
  by_cases k : c
  · rw [if_pos k]; exact h1
  · rw [if_neg k]; exact h2
theorem hf3_i {S A : sS} {c : Prop} [Decidable c] {a b : Int32 × sS × sS} (h1 : hf3 S A a) (h2 : hf3 S A b) : hf3 S A (if c then a else b) := by
  by_cases k : c
  · rw [if_pos k]; exact h1
  · rw [if_neg k]; exact h2
theorem hf4_i {S A : sS} {c : Prop} [Decidable c] {a b : Int32 × sS × sS × Option Nat} (h1 : hf4 S A a) (h2 : hf4 S A b) : hf4 S A (if c then a else b) := by
  by_cases k : c
  · rw [if_pos k]; exact h1
  · rw [if_neg k]; exact h2
theorem lf_i {S A : sS} {c : Prop} [Decidable c] {a b : sS × sS} (h1 : lf S A a) (h2 : lf S A b) : lf S A (if c then a else b) := by
  by_cases k : c
  · rw [if_pos k]; exact h1
  · rw [if_neg k]; exact h2
theorem lf3_i {S A : sS} {c : Prop} [Decidable c] {a b : Int32 × sS × sS} (h1 : lf3 S A a) (h2 : lf3 S A b) : lf3 S A (if c then a else b) := by
  by_cases k : c
  · rw [if_pos k]; exact h1
  · rw [if_neg k]; exact h2

section FRAMES
variable {S A : sS} {G : sG}
theorem hw_ {x1 x2 x3 x4 x5 x6 : Int32} : hf S A (O2_write S A G x1 x2 x3 x4 x5 x6) := by
  by_cases c : S 6 0 1 < 300
  · rw [wr_eq c]; exact ⟨hi_6, hi_wrA⟩
  · unfold O2_write
    rw [if_neg c]; exact ⟨rfl, rfl⟩
theorem ht_ {u : Nat} {x2 : Int32} : hf3 S A (O6_tryCode S A G u x2) := by
  unfold O6_tryCode
  repeat' apply hf3_i
  all_goals exact ⟨by simp only [hi_12], rfl⟩
theorem hk_ {q : Nat} {x1 x2 : Int32} : hf S A (O3_take S A G q x1 x2) := by
  unfold O3_take
  repeat' apply hf_i
  all_goals exact ⟨by simp only [hi_14], rfl⟩
theorem hm_ : hf S A (O2_makeWhole S A G) := by
  unfold O2_makeWhole
  repeat' apply hf_i
  all_goals exact ⟨rfl, by simp only [hi_9, hi_cp]⟩
theorem hc_ {b : Nat} {x1 x2 : Int32} : hf S A (O0_correctTo S A G b x1 x2) := by
  have h := frB_hi (correctTo_fr (S := S) (A := A) (G := G) (b := b) (x1 := x1) (x2 := x2))
  simp only [hi_15] at h
  exact h

theorem hW1 {x1 x2 x3 x4 x5 x6 : Int32} : hi (O2_write S A G x1 x2 x3 x4 x5 x6).1 = hi S := hw_.1
theorem hW2 {x1 x2 x3 x4 x5 x6 : Int32} : hi (O2_write S A G x1 x2 x3 x4 x5 x6).2 = hi A := hw_.2
theorem hK1 {q : Nat} {x1 x2 : Int32} : hi (O3_take S A G q x1 x2).1 = hi S := hk_.1
theorem hK2 {q : Nat} {x1 x2 : Int32} : hi (O3_take S A G q x1 x2).2 = hi A := hk_.2
theorem hM1  : hi (O2_makeWhole S A G).1 = hi S := hm_.1
theorem hM2  : hi (O2_makeWhole S A G).2 = hi A := hm_.2
theorem hC1 {b : Nat} {x1 x2 : Int32} : hi (O0_correctTo S A G b x1 x2).1 = hi S := hc_.1
theorem hC2 {b : Nat} {x1 x2 : Int32} : hi (O0_correctTo S A G b x1 x2).2 = hi A := hc_.2
theorem hAL1 {b : Nat} {x1 x2 : Int32} : hi (O0_addLot S A G b x1 x2).1 = hi S := (frB_hi addLot_fr).1
theorem hAL2 {b : Nat} {x1 x2 : Int32} : hi (O0_addLot S A G b x1 x2).2 = hi A := (frB_hi addLot_fr).2
theorem hRM1 {b : Nat} {x1 x2 : Int32} : hi (O0_remove S A G b x1 x2).1 = hi S := (frB_hi remove_fr).1
theorem hRM2 {b : Nat} {x1 x2 : Int32} : hi (O0_remove S A G b x1 x2).2 = hi A := (frB_hi remove_fr).2
theorem hT1 {u : Nat} {x2 : Int32} : hi (O6_tryCode S A G u x2).2.1 = hi S := ht_.1
theorem hT2 {u : Nat} {x2 : Int32} : hi (O6_tryCode S A G u x2).2.2 = hi A := ht_.2
theorem h6_user {x1 x2 x3 : Int32} : hf4 S A (O6_user S A G x1 x2 x3) := by
  unfold O6_user
  repeat' apply hf4_i
  all_goals exact ⟨by simp only [hi_0, hi_5, hi_6, hi_7, hi_8, hi_9, hi_11, hi_12, hi_13, hi_14, hi_15, hi_16, hi_17, hi_o12, hi_o13, hi_o14, hi_cp, hW1, hW2, hK1, hK2, hM1, hM2, hC1, hC2, hAL1, hAL2, hRM1, hRM2, hT1, hT2, O6_accept, O6_sendOut, O4_open, O4_close], by simp only [hi_0, hi_5, hi_6, hi_7, hi_8, hi_9, hi_11, hi_12, hi_13, hi_14, hi_15, hi_16, hi_17, hi_o12, hi_o13, hi_o14, hi_cp, hW1, hW2, hK1, hK2, hM1, hM2, hC1, hC2, hAL1, hAL2, hRM1, hRM2, hT1, hT2, O6_accept, O6_sendOut, O4_open, O4_close]⟩
theorem h6_item {x1 x2 x3 : Int32} : hf4 S A (O6_item S A G x1 x2 x3) := by
  unfold O6_item
  repeat' apply hf4_i
  all_goals exact ⟨by simp only [hi_0, hi_5, hi_6, hi_7, hi_8, hi_9, hi_11, hi_12, hi_13, hi_14, hi_15, hi_16, hi_17, hi_o12, hi_o13, hi_o14, hi_cp, hW1, hW2, hK1, hK2, hM1, hM2, hC1, hC2, hAL1, hAL2, hRM1, hRM2, hT1, hT2, O6_accept, O6_sendOut, O4_open, O4_close], by simp only [hi_0, hi_5, hi_6, hi_7, hi_8, hi_9, hi_11, hi_12, hi_13, hi_14, hi_15, hi_16, hi_17, hi_o12, hi_o13, hi_o14, hi_cp, hW1, hW2, hK1, hK2, hM1, hM2, hC1, hC2, hAL1, hAL2, hRM1, hRM2, hT1, hT2, O6_accept, O6_sendOut, O4_open, O4_close]⟩
theorem h6_order {x1 x2 x3 x4 : Int32} : hf4 S A (O6_order S A G x1 x2 x3 x4) := by
  unfold O6_order
  repeat' apply hf4_i
  all_goals exact ⟨by simp only [hi_0, hi_5, hi_6, hi_7, hi_8, hi_9, hi_11, hi_12, hi_13, hi_14, hi_15, hi_16, hi_17, hi_o12, hi_o13, hi_o14, hi_cp, hW1, hW2, hK1, hK2, hM1, hM2, hC1, hC2, hAL1, hAL2, hRM1, hRM2, hT1, hT2, O6_accept, O6_sendOut, O4_open, O4_close], by simp only [hi_0, hi_5, hi_6, hi_7, hi_8, hi_9, hi_11, hi_12, hi_13, hi_14, hi_15, hi_16, hi_17, hi_o12, hi_o13, hi_o14, hi_cp, hW1, hW2, hK1, hK2, hM1, hM2, hC1, hC2, hAL1, hAL2, hRM1, hRM2, hT1, hT2, O6_accept, O6_sendOut, O4_open, O4_close]⟩
theorem h6_login {x1 x2 : Int32} : hf3 S A (O6_login S A G x1 x2) := by
  unfold O6_login O6_login_34 O6_login_45 O6_login_54
  repeat' apply hf3_i
  all_goals exact ⟨by simp only [hi_0, hi_5, hi_6, hi_7, hi_8, hi_9, hi_11, hi_12, hi_13, hi_14, hi_15, hi_16, hi_17, hi_o12, hi_o13, hi_o14, hi_cp, hW1, hW2, hK1, hK2, hM1, hM2, hC1, hC2, hAL1, hAL2, hRM1, hRM2, hT1, hT2, O6_accept, O6_sendOut, O4_open, O4_close], by simp only [hi_0, hi_5, hi_6, hi_7, hi_8, hi_9, hi_11, hi_12, hi_13, hi_14, hi_15, hi_16, hi_17, hi_o12, hi_o13, hi_o14, hi_cp, hW1, hW2, hK1, hK2, hM1, hM2, hC1, hC2, hAL1, hAL2, hRM1, hRM2, hT1, hT2, O6_accept, O6_sendOut, O4_open, O4_close]⟩
theorem h6_logout : hf3 S A (O6_logout S A G ) := by
  unfold O6_logout O6_logout_33
  repeat' apply hf3_i
  all_goals exact ⟨by simp only [hi_0, hi_5, hi_6, hi_7, hi_8, hi_9, hi_11, hi_12, hi_13, hi_14, hi_15, hi_16, hi_17, hi_o12, hi_o13, hi_o14, hi_cp, hW1, hW2, hK1, hK2, hM1, hM2, hC1, hC2, hAL1, hAL2, hRM1, hRM2, hT1, hT2, O6_accept, O6_sendOut, O4_open, O4_close], by simp only [hi_0, hi_5, hi_6, hi_7, hi_8, hi_9, hi_11, hi_12, hi_13, hi_14, hi_15, hi_16, hi_17, hi_o12, hi_o13, hi_o14, hi_cp, hW1, hW2, hK1, hK2, hM1, hM2, hC1, hC2, hAL1, hAL2, hRM1, hRM2, hT1, hT2, O6_accept, O6_sendOut, O4_open, O4_close]⟩
theorem h6_witness {x1 x2 : Int32} : hf3 S A (O6_witness S A G x1 x2) := by
  unfold O6_witness O6_witness_40 O6_witness_67
  repeat' apply hf3_i
  all_goals exact ⟨by simp only [hi_0, hi_5, hi_6, hi_7, hi_8, hi_9, hi_11, hi_12, hi_13, hi_14, hi_15, hi_16, hi_17, hi_o12, hi_o13, hi_o14, hi_cp, hW1, hW2, hK1, hK2, hM1, hM2, hC1, hC2, hAL1, hAL2, hRM1, hRM2, hT1, hT2, O6_accept, O6_sendOut, O4_open, O4_close], by simp only [hi_0, hi_5, hi_6, hi_7, hi_8, hi_9, hi_11, hi_12, hi_13, hi_14, hi_15, hi_16, hi_17, hi_o12, hi_o13, hi_o14, hi_cp, hW1, hW2, hK1, hK2, hM1, hM2, hC1, hC2, hAL1, hAL2, hRM1, hRM2, hT1, hT2, O6_accept, O6_sendOut, O4_open, O4_close]⟩
theorem h6_tick {x1 : Int32} : hf3 S A (O6_tick S A G x1) := by
  unfold O6_tick O6_tick_68
  repeat' apply hf3_i
  all_goals exact ⟨by simp only [hi_0, hi_5, hi_6, hi_7, hi_8, hi_9, hi_11, hi_12, hi_13, hi_14, hi_15, hi_16, hi_17, hi_o12, hi_o13, hi_o14, hi_cp, hW1, hW2, hK1, hK2, hM1, hM2, hC1, hC2, hAL1, hAL2, hRM1, hRM2, hT1, hT2, O6_accept, O6_sendOut, O4_open, O4_close], by simp only [hi_0, hi_5, hi_6, hi_7, hi_8, hi_9, hi_11, hi_12, hi_13, hi_14, hi_15, hi_16, hi_17, hi_o12, hi_o13, hi_o14, hi_cp, hW1, hW2, hK1, hK2, hM1, hM2, hC1, hC2, hAL1, hAL2, hRM1, hRM2, hT1, hT2, O6_accept, O6_sendOut, O4_open, O4_close]⟩
theorem h6_cancel {x1 : Int32} : hf3 S A (O6_cancel S A G x1) := by
  unfold O6_cancel O6_cancel_75
  repeat' apply hf3_i
  all_goals exact ⟨by simp only [hi_0, hi_5, hi_6, hi_7, hi_8, hi_9, hi_11, hi_12, hi_13, hi_14, hi_15, hi_16, hi_17, hi_o12, hi_o13, hi_o14, hi_cp, hW1, hW2, hK1, hK2, hM1, hM2, hC1, hC2, hAL1, hAL2, hRM1, hRM2, hT1, hT2, O6_accept, O6_sendOut, O4_open, O4_close], by simp only [hi_0, hi_5, hi_6, hi_7, hi_8, hi_9, hi_11, hi_12, hi_13, hi_14, hi_15, hi_16, hi_17, hi_o12, hi_o13, hi_o14, hi_cp, hW1, hW2, hK1, hK2, hM1, hM2, hC1, hC2, hAL1, hAL2, hRM1, hRM2, hT1, hT2, O6_accept, O6_sendOut, O4_open, O4_close]⟩
theorem h6_begin {x1 x2 : Int32} : hf3 S A (O6_begin S A G x1 x2) := by
  unfold O6_begin O6_begin_190 O6_begin_232
  repeat' apply hf3_i
  all_goals exact ⟨by simp only [hi_0, hi_5, hi_6, hi_7, hi_8, hi_9, hi_11, hi_12, hi_13, hi_14, hi_15, hi_16, hi_17, hi_o12, hi_o13, hi_o14, hi_cp, hW1, hW2, hK1, hK2, hM1, hM2, hC1, hC2, hAL1, hAL2, hRM1, hRM2, hT1, hT2, O6_accept, O6_sendOut, O4_open, O4_close], by simp only [hi_0, hi_5, hi_6, hi_7, hi_8, hi_9, hi_11, hi_12, hi_13, hi_14, hi_15, hi_16, hi_17, hi_o12, hi_o13, hi_o14, hi_cp, hW1, hW2, hK1, hK2, hM1, hM2, hC1, hC2, hAL1, hAL2, hRM1, hRM2, hT1, hT2, O6_accept, O6_sendOut, O4_open, O4_close]⟩
theorem h6_count {x1 : Int32} : hf3 S A (O6_count S A G x1) := by
  unfold O6_count O6_count_75 O6_count_125 O6_count_129
  repeat' apply hf3_i
  all_goals exact ⟨by simp only [hi_0, hi_5, hi_6, hi_7, hi_8, hi_9, hi_11, hi_12, hi_13, hi_14, hi_15, hi_16, hi_17, hi_o12, hi_o13, hi_o14, hi_cp, hW1, hW2, hK1, hK2, hM1, hM2, hC1, hC2, hAL1, hAL2, hRM1, hRM2, hT1, hT2, O6_accept, O6_sendOut, O4_open, O4_close], by simp only [hi_0, hi_5, hi_6, hi_7, hi_8, hi_9, hi_11, hi_12, hi_13, hi_14, hi_15, hi_16, hi_17, hi_o12, hi_o13, hi_o14, hi_cp, hW1, hW2, hK1, hK2, hM1, hM2, hC1, hC2, hAL1, hAL2, hRM1, hRM2, hT1, hT2, O6_accept, O6_sendOut, O4_open, O4_close]⟩
theorem h6_amount {x1 x2 x3 : Int32} : hf3 S A (O6_amount S A G x1 x2 x3) := by
  unfold O6_amount O6_amount_172 O6_amount_192 O6_amount_202 O6_amount_214 O6_letIn O6_letIn_12 O6_letIn_37 O6_takeOut O6_takeOut_13 O6_takeOut_33 O6_takeOut_64 O6_wasteFrom O6_wasteFrom_6 O6_wasteFrom_31
  repeat' apply hf3_i
  all_goals exact ⟨by simp only [hi_0, hi_5, hi_6, hi_7, hi_8, hi_9, hi_11, hi_12, hi_13, hi_14, hi_15, hi_16, hi_17, hi_o12, hi_o13, hi_o14, hi_cp, hW1, hW2, hK1, hK2, hM1, hM2, hC1, hC2, hAL1, hAL2, hRM1, hRM2, hT1, hT2, O6_accept, O6_sendOut, O4_open, O4_close], by simp only [hi_0, hi_5, hi_6, hi_7, hi_8, hi_9, hi_11, hi_12, hi_13, hi_14, hi_15, hi_16, hi_17, hi_o12, hi_o13, hi_o14, hi_cp, hW1, hW2, hK1, hK2, hM1, hM2, hC1, hC2, hAL1, hAL2, hRM1, hRM2, hT1, hT2, O6_accept, O6_sendOut, O4_open, O4_close]⟩
theorem h6_shut : hf3 S A (O6_shut S A G ) := by
  unfold O6_shut O6_shut_54 O6_shut_58
  repeat' apply hf3_i
  all_goals exact ⟨by simp only [hi_0, hi_5, hi_6, hi_7, hi_8, hi_9, hi_11, hi_12, hi_13, hi_14, hi_15, hi_16, hi_17, hi_o12, hi_o13, hi_o14, hi_cp, hW1, hW2, hK1, hK2, hM1, hM2, hC1, hC2, hAL1, hAL2, hRM1, hRM2, hT1, hT2, O6_accept, O6_sendOut, O4_open, O4_close], by simp only [hi_0, hi_5, hi_6, hi_7, hi_8, hi_9, hi_11, hi_12, hi_13, hi_14, hi_15, hi_16, hi_17, hi_o12, hi_o13, hi_o14, hi_cp, hW1, hW2, hK1, hK2, hM1, hM2, hC1, hC2, hAL1, hAL2, hRM1, hRM2, hT1, hT2, O6_accept, O6_sendOut, O4_open, O4_close]⟩
theorem h6_giveBack {x1 x2 : Int32} : hf3 S A (O6_giveBack S A G x1 x2) := by
  unfold O6_giveBack O6_giveBack_74 O6_giveBack_78
  repeat' apply hf3_i
  all_goals exact ⟨by simp only [hi_0, hi_5, hi_6, hi_7, hi_8, hi_9, hi_11, hi_12, hi_13, hi_14, hi_15, hi_16, hi_17, hi_o12, hi_o13, hi_o14, hi_cp, hW1, hW2, hK1, hK2, hM1, hM2, hC1, hC2, hAL1, hAL2, hRM1, hRM2, hT1, hT2, O6_accept, O6_sendOut, O4_open, O4_close], by simp only [hi_0, hi_5, hi_6, hi_7, hi_8, hi_9, hi_11, hi_12, hi_13, hi_14, hi_15, hi_16, hi_17, hi_o12, hi_o13, hi_o14, hi_cp, hW1, hW2, hK1, hK2, hM1, hM2, hC1, hC2, hAL1, hAL2, hRM1, hRM2, hT1, hT2, O6_accept, O6_sendOut, O4_open, O4_close]⟩
theorem h6_lose {x1 : Int32} : hf3 S A (O6_lose S A G x1) := by
  unfold O6_lose
  repeat' apply hf3_i
  all_goals exact ⟨by simp only [hi_0, hi_5, hi_6, hi_7, hi_8, hi_9, hi_11, hi_12, hi_13, hi_14, hi_15, hi_16, hi_17, hi_o12, hi_o13, hi_o14, hi_cp, hW1, hW2, hK1, hK2, hM1, hM2, hC1, hC2, hAL1, hAL2, hRM1, hRM2, hT1, hT2, O6_accept, O6_sendOut, O4_open, O4_close], by simp only [hi_0, hi_5, hi_6, hi_7, hi_8, hi_9, hi_11, hi_12, hi_13, hi_14, hi_15, hi_16, hi_17, hi_o12, hi_o13, hi_o14, hi_cp, hW1, hW2, hK1, hK2, hM1, hM2, hC1, hC2, hAL1, hAL2, hRM1, hRM2, hT1, hT2, O6_accept, O6_sendOut, O4_open, O4_close]⟩
theorem h6_repair : hf3 S A (O6_repair S A G ) := by
  unfold O6_repair O6_repair_20
  repeat' apply hf3_i
  all_goals exact ⟨by simp only [hi_0, hi_5, hi_6, hi_7, hi_8, hi_9, hi_11, hi_12, hi_13, hi_14, hi_15, hi_16, hi_17, hi_o12, hi_o13, hi_o14, hi_cp, hW1, hW2, hK1, hK2, hM1, hM2, hC1, hC2, hAL1, hAL2, hRM1, hRM2, hT1, hT2, O6_accept, O6_sendOut, O4_open, O4_close], by simp only [hi_0, hi_5, hi_6, hi_7, hi_8, hi_9, hi_11, hi_12, hi_13, hi_14, hi_15, hi_16, hi_17, hi_o12, hi_o13, hi_o14, hi_cp, hW1, hW2, hK1, hK2, hM1, hM2, hC1, hC2, hAL1, hAL2, hRM1, hRM2, hT1, hT2, O6_accept, O6_sendOut, O4_open, O4_close]⟩
theorem h6_rec : ∀ (r : Nat) (S A : sS) (z : Int32) (j : Nat), hf3 S A (O6_reconcile_19 G r S A z j) := by
  intro r
  induction r with
  | zero => intro S A z j; exact ⟨rfl, rfl⟩
  | succ r ih =>
    intro S A z j
    rw [O6_reconcile_19]
    unfold O6_reconcile_97 O6_reconcile_101
    refine hf3_i ?_ (hf3_i ?_ ?_)
    · exact ⟨by simp only [hi_0, hi_5, hi_6, hi_7, hi_8, hi_9, hi_11, hi_12, hi_13, hi_14, hi_15, hi_16, hi_17, hi_o12, hi_o13, hi_o14, hi_cp, hW1, hW2, hK1, hK2, hM1, hM2, hC1, hC2, hAL1, hAL2, hRM1, hRM2, hT1, hT2, O6_accept, O6_sendOut, O4_open, O4_close], by simp only [hi_0, hi_5, hi_6, hi_7, hi_8, hi_9, hi_11, hi_12, hi_13, hi_14, hi_15, hi_16, hi_17, hi_o12, hi_o13, hi_o14, hi_cp, hW1, hW2, hK1, hK2, hM1, hM2, hC1, hC2, hAL1, hAL2, hRM1, hRM2, hT1, hT2, O6_accept, O6_sendOut, O4_open, O4_close]⟩
    · have q := ih (up3 S 15 j 5 0) A z (j + 1)
      exact ⟨q.1.trans hi_15, q.2⟩
    · have q := ih (up3 (up3 S 0 0 14 (S 0 0 14 + 1)) 15 j 5 0) (up3 A 7 0 (S 0 0 14).toNatClampNeg (nI j)) z (j + 1)
      exact ⟨q.1.trans (hi_15.trans hi_0), q.2.trans hi_7⟩
theorem h6_reconcile : hf3 S A (O6_reconcile S A G) := by
  unfold O6_reconcile
  refine hf3_i ?_ ⟨rfl, rfl⟩
  have q := h6_rec (G := G) 65 (up3 S 0 0 14 0) A (V6_refusalWithoutStep S A G 1) 0
  exact ⟨q.1.trans hi_0, q.2⟩
theorem f8_hi {A A1 : sS} (h : f8 A A1) : hi A1 = hi A := by
  funext f m i
  unfold hi
  split
  · exact h f m i (by omega)
  · rfl

theorem lp_ {x1 x2 x3 : Int32} : ∀ (r : Nat) (S A : sS) (j : Nat), lf S A (O7_putLot_8 G x1 x2 x3 r S A j) := by
  intro r
  induction r with
  | zero => intro S A j; exact ⟨rfl, rfl⟩
  | succ r ih =>
    intro S A j
    rw [O7_putLot_8]
    refine lf_i ?_ (lf_i ?_ ?_)
    · exact ⟨rfl, by simp only [lo_36, lo_37, lo_38]⟩
    · exact ⟨rfl, by simp only [lo_36, lo_37, lo_38]⟩
    · have q := ih S (up3 (up3 A 37 0 (6 * x1.toNatClampNeg + j) (A 37 0 (6 * x1.toNatClampNeg + (j - 1)))) 38 0 (6 * x1.toNatClampNeg + j) (A 38 0 (6 * x1.toNatClampNeg + (j - 1)))) (j - 1)
      exact ⟨q.1, q.2.trans (lo_38.trans lo_37)⟩
theorem lt_ {x1 x2 x3 : Int32} : ∀ (r : Nat) (S A : sS) (z : Int32) (i j : Nat), lf S A (O7_takeUnits_9 G x1 x2 x3 r S A z i j) := by
  intro r
  induction r with
  | zero => intro S A z i j; exact ⟨rfl, rfl⟩
  | succ r ih =>
    intro S A z i j
    by_cases c : A 36 0 x1.toNatClampNeg ≤ nI j
    · rw [O7_takeUnits_9, if_pos c]; exact ⟨rfl, lo_36⟩
    · rw [take_s c rfl]
      refine lf_i (ih _ _ _ _ _) ?_
      refine ⟨(ih _ _ _ _ _).1, (ih _ _ _ _ _).2.trans (lo_38.trans lo_37)⟩
theorem lPL1 {x1 x2 x3 : Int32} : lo (O7_putLot S A G x1 x2 x3).1 = lo S := (lp_ _ _ _ _).1
theorem lPL2 {x1 x2 x3 : Int32} : lo (O7_putLot S A G x1 x2 x3).2 = lo A := (lp_ _ _ _ _).2
theorem lTU1 {x1 x2 x3 : Int32} : lo (O7_takeUnits S A G x1 x2 x3).1 = lo S := (lt_ _ _ _ _ _ _).1
theorem lTU2 {x1 x2 x3 : Int32} : lo (O7_takeUnits S A G x1 x2 x3).2 = lo A := (lt_ _ _ _ _ _ _).2
theorem lNT1 {x1 x2 x3 x4 : Int32} : lo (O7_note S A G x1 x2 x3 x4).1 = lo S := by unfold O7_note; simp only [lo_20]
theorem lNT2 {x1 x2 x3 x4 : Int32} : lo (O7_note S A G x1 x2 x3 x4).2 = lo A := by unfold O7_note; simp only [lo_56]
theorem ltc {x1 x2 : Int32} : lf3 S A (O7_tryCode S A G x1 x2) := by
  unfold O7_tryCode
  repeat' apply lf3_i
  all_goals exact ⟨rfl, by simp only [lo_25, lo_26]⟩
theorem lTC1 {x1 x2 : Int32} : lo (O7_tryCode S A G x1 x2).2.1 = lo S := ltc.1
theorem lTC2 {x1 x2 : Int32} : lo (O7_tryCode S A G x1 x2).2.2 = lo A := ltc.2

theorem l7_user {x1 x2 x3 : Int32} : lf3 S A (O7_user S A G x1 x2 x3) := by
  unfold O7_user
  repeat' apply lf3_i
  all_goals exact ⟨by simp only [lo_20, lo_22, lo_23, lo_24, lo_25, lo_26, lo_31, lo_32, lo_33, lo_34, lo_35, lo_36, lo_37, lo_38, lo_39, lo_40, lo_42, lo_43, lo_44, lo_45, lo_46, lo_47, lo_56, lo_57, lo_59, lPL1, lPL2, lTU1, lTU2, lNT1, lNT2, lTC1, lTC2], by simp only [lo_20, lo_22, lo_23, lo_24, lo_25, lo_26, lo_31, lo_32, lo_33, lo_34, lo_35, lo_36, lo_37, lo_38, lo_39, lo_40, lo_42, lo_43, lo_44, lo_45, lo_46, lo_47, lo_56, lo_57, lo_59, lPL1, lPL2, lTU1, lTU2, lNT1, lNT2, lTC1, lTC2]⟩
theorem l7_item {x1 x2 x3 : Int32} : lf3 S A (O7_item S A G x1 x2 x3) := by
  unfold O7_item
  repeat' apply lf3_i
  all_goals exact ⟨by simp only [lo_20, lo_22, lo_23, lo_24, lo_25, lo_26, lo_31, lo_32, lo_33, lo_34, lo_35, lo_36, lo_37, lo_38, lo_39, lo_40, lo_42, lo_43, lo_44, lo_45, lo_46, lo_47, lo_56, lo_57, lo_59, lPL1, lPL2, lTU1, lTU2, lNT1, lNT2, lTC1, lTC2], by simp only [lo_20, lo_22, lo_23, lo_24, lo_25, lo_26, lo_31, lo_32, lo_33, lo_34, lo_35, lo_36, lo_37, lo_38, lo_39, lo_40, lo_42, lo_43, lo_44, lo_45, lo_46, lo_47, lo_56, lo_57, lo_59, lPL1, lPL2, lTU1, lTU2, lNT1, lNT2, lTC1, lTC2]⟩
theorem l7_order {x1 x2 x3 x4 : Int32} : lf3 S A (O7_order S A G x1 x2 x3 x4) := by
  unfold O7_order
  repeat' apply lf3_i
  all_goals exact ⟨by simp only [lo_20, lo_22, lo_23, lo_24, lo_25, lo_26, lo_31, lo_32, lo_33, lo_34, lo_35, lo_36, lo_37, lo_38, lo_39, lo_40, lo_42, lo_43, lo_44, lo_45, lo_46, lo_47, lo_56, lo_57, lo_59, lPL1, lPL2, lTU1, lTU2, lNT1, lNT2, lTC1, lTC2], by simp only [lo_20, lo_22, lo_23, lo_24, lo_25, lo_26, lo_31, lo_32, lo_33, lo_34, lo_35, lo_36, lo_37, lo_38, lo_39, lo_40, lo_42, lo_43, lo_44, lo_45, lo_46, lo_47, lo_56, lo_57, lo_59, lPL1, lPL2, lTU1, lTU2, lNT1, lNT2, lTC1, lTC2]⟩
theorem l7_login {x1 x2 : Int32} : lf3 S A (O7_login S A G x1 x2) := by
  unfold O7_login O7_login_30
  repeat' apply lf3_i
  all_goals exact ⟨by simp only [lo_20, lo_22, lo_23, lo_24, lo_25, lo_26, lo_31, lo_32, lo_33, lo_34, lo_35, lo_36, lo_37, lo_38, lo_39, lo_40, lo_42, lo_43, lo_44, lo_45, lo_46, lo_47, lo_56, lo_57, lo_59, lPL1, lPL2, lTU1, lTU2, lNT1, lNT2, lTC1, lTC2], by simp only [lo_20, lo_22, lo_23, lo_24, lo_25, lo_26, lo_31, lo_32, lo_33, lo_34, lo_35, lo_36, lo_37, lo_38, lo_39, lo_40, lo_42, lo_43, lo_44, lo_45, lo_46, lo_47, lo_56, lo_57, lo_59, lPL1, lPL2, lTU1, lTU2, lNT1, lNT2, lTC1, lTC2]⟩
theorem l7_logout : lf3 S A (O7_logout S A G ) := by
  unfold O7_logout
  repeat' apply lf3_i
  all_goals exact ⟨by simp only [lo_20, lo_22, lo_23, lo_24, lo_25, lo_26, lo_31, lo_32, lo_33, lo_34, lo_35, lo_36, lo_37, lo_38, lo_39, lo_40, lo_42, lo_43, lo_44, lo_45, lo_46, lo_47, lo_56, lo_57, lo_59, lPL1, lPL2, lTU1, lTU2, lNT1, lNT2, lTC1, lTC2], by simp only [lo_20, lo_22, lo_23, lo_24, lo_25, lo_26, lo_31, lo_32, lo_33, lo_34, lo_35, lo_36, lo_37, lo_38, lo_39, lo_40, lo_42, lo_43, lo_44, lo_45, lo_46, lo_47, lo_56, lo_57, lo_59, lPL1, lPL2, lTU1, lTU2, lNT1, lNT2, lTC1, lTC2]⟩
theorem l7_witness {x1 x2 : Int32} : lf3 S A (O7_witness S A G x1 x2) := by
  unfold O7_witness O7_witness_38
  repeat' apply lf3_i
  all_goals exact ⟨by simp only [lo_20, lo_22, lo_23, lo_24, lo_25, lo_26, lo_31, lo_32, lo_33, lo_34, lo_35, lo_36, lo_37, lo_38, lo_39, lo_40, lo_42, lo_43, lo_44, lo_45, lo_46, lo_47, lo_56, lo_57, lo_59, lPL1, lPL2, lTU1, lTU2, lNT1, lNT2, lTC1, lTC2], by simp only [lo_20, lo_22, lo_23, lo_24, lo_25, lo_26, lo_31, lo_32, lo_33, lo_34, lo_35, lo_36, lo_37, lo_38, lo_39, lo_40, lo_42, lo_43, lo_44, lo_45, lo_46, lo_47, lo_56, lo_57, lo_59, lPL1, lPL2, lTU1, lTU2, lNT1, lNT2, lTC1, lTC2]⟩
theorem l7_tick {x1 : Int32} : lf3 S A (O7_tick S A G x1) := by
  unfold O7_tick
  repeat' apply lf3_i
  all_goals exact ⟨by simp only [lo_20, lo_22, lo_23, lo_24, lo_25, lo_26, lo_31, lo_32, lo_33, lo_34, lo_35, lo_36, lo_37, lo_38, lo_39, lo_40, lo_42, lo_43, lo_44, lo_45, lo_46, lo_47, lo_56, lo_57, lo_59, lPL1, lPL2, lTU1, lTU2, lNT1, lNT2, lTC1, lTC2], by simp only [lo_20, lo_22, lo_23, lo_24, lo_25, lo_26, lo_31, lo_32, lo_33, lo_34, lo_35, lo_36, lo_37, lo_38, lo_39, lo_40, lo_42, lo_43, lo_44, lo_45, lo_46, lo_47, lo_56, lo_57, lo_59, lPL1, lPL2, lTU1, lTU2, lNT1, lNT2, lTC1, lTC2]⟩
theorem l7_cancel {x1 : Int32} : lf3 S A (O7_cancel S A G x1) := by
  unfold O7_cancel
  repeat' apply lf3_i
  all_goals exact ⟨by simp only [lo_20, lo_22, lo_23, lo_24, lo_25, lo_26, lo_31, lo_32, lo_33, lo_34, lo_35, lo_36, lo_37, lo_38, lo_39, lo_40, lo_42, lo_43, lo_44, lo_45, lo_46, lo_47, lo_56, lo_57, lo_59, lPL1, lPL2, lTU1, lTU2, lNT1, lNT2, lTC1, lTC2], by simp only [lo_20, lo_22, lo_23, lo_24, lo_25, lo_26, lo_31, lo_32, lo_33, lo_34, lo_35, lo_36, lo_37, lo_38, lo_39, lo_40, lo_42, lo_43, lo_44, lo_45, lo_46, lo_47, lo_56, lo_57, lo_59, lPL1, lPL2, lTU1, lTU2, lNT1, lNT2, lTC1, lTC2]⟩
theorem l7_begin {x1 x2 : Int32} : lf3 S A (O7_begin S A G x1 x2) := by
  unfold O7_begin
  repeat' apply lf3_i
  all_goals exact ⟨by simp only [lo_20, lo_22, lo_23, lo_24, lo_25, lo_26, lo_31, lo_32, lo_33, lo_34, lo_35, lo_36, lo_37, lo_38, lo_39, lo_40, lo_42, lo_43, lo_44, lo_45, lo_46, lo_47, lo_56, lo_57, lo_59, lPL1, lPL2, lTU1, lTU2, lNT1, lNT2, lTC1, lTC2], by simp only [lo_20, lo_22, lo_23, lo_24, lo_25, lo_26, lo_31, lo_32, lo_33, lo_34, lo_35, lo_36, lo_37, lo_38, lo_39, lo_40, lo_42, lo_43, lo_44, lo_45, lo_46, lo_47, lo_56, lo_57, lo_59, lPL1, lPL2, lTU1, lTU2, lNT1, lNT2, lTC1, lTC2]⟩
theorem l7_count {x1 : Int32} : lf3 S A (O7_count S A G x1) := by
  unfold O7_count O7_count_155 O7_count_125 O7_count_188 O7_count_223
  repeat' apply lf3_i
  all_goals exact ⟨by simp only [lo_20, lo_22, lo_23, lo_24, lo_25, lo_26, lo_31, lo_32, lo_33, lo_34, lo_35, lo_36, lo_37, lo_38, lo_39, lo_40, lo_42, lo_43, lo_44, lo_45, lo_46, lo_47, lo_56, lo_57, lo_59, lPL1, lPL2, lTU1, lTU2, lNT1, lNT2, lTC1, lTC2], by simp only [lo_20, lo_22, lo_23, lo_24, lo_25, lo_26, lo_31, lo_32, lo_33, lo_34, lo_35, lo_36, lo_37, lo_38, lo_39, lo_40, lo_42, lo_43, lo_44, lo_45, lo_46, lo_47, lo_56, lo_57, lo_59, lPL1, lPL2, lTU1, lTU2, lNT1, lNT2, lTC1, lTC2]⟩
theorem l7_amount {x1 x2 x3 : Int32} : lf3 S A (O7_amount S A G x1 x2 x3) := by
  unfold O7_amount O7_amount_69 O7_amount_78 O7_amount_101 O7_amount_124
  repeat' apply lf3_i
  all_goals exact ⟨by simp only [lo_20, lo_22, lo_23, lo_24, lo_25, lo_26, lo_31, lo_32, lo_33, lo_34, lo_35, lo_36, lo_37, lo_38, lo_39, lo_40, lo_42, lo_43, lo_44, lo_45, lo_46, lo_47, lo_56, lo_57, lo_59, lPL1, lPL2, lTU1, lTU2, lNT1, lNT2, lTC1, lTC2], by simp only [lo_20, lo_22, lo_23, lo_24, lo_25, lo_26, lo_31, lo_32, lo_33, lo_34, lo_35, lo_36, lo_37, lo_38, lo_39, lo_40, lo_42, lo_43, lo_44, lo_45, lo_46, lo_47, lo_56, lo_57, lo_59, lPL1, lPL2, lTU1, lTU2, lNT1, lNT2, lTC1, lTC2]⟩
theorem l7_shut : lf3 S A (O7_shut S A G ) := by
  unfold O7_shut
  repeat' apply lf3_i
  all_goals exact ⟨by simp only [lo_20, lo_22, lo_23, lo_24, lo_25, lo_26, lo_31, lo_32, lo_33, lo_34, lo_35, lo_36, lo_37, lo_38, lo_39, lo_40, lo_42, lo_43, lo_44, lo_45, lo_46, lo_47, lo_56, lo_57, lo_59, lPL1, lPL2, lTU1, lTU2, lNT1, lNT2, lTC1, lTC2], by simp only [lo_20, lo_22, lo_23, lo_24, lo_25, lo_26, lo_31, lo_32, lo_33, lo_34, lo_35, lo_36, lo_37, lo_38, lo_39, lo_40, lo_42, lo_43, lo_44, lo_45, lo_46, lo_47, lo_56, lo_57, lo_59, lPL1, lPL2, lTU1, lTU2, lNT1, lNT2, lTC1, lTC2]⟩
theorem l7_giveBack {x1 x2 : Int32} : lf3 S A (O7_giveBack S A G x1 x2) := by
  unfold O7_giveBack O7_giveBack_135
  repeat' apply lf3_i
  all_goals exact ⟨by simp only [lo_20, lo_22, lo_23, lo_24, lo_25, lo_26, lo_31, lo_32, lo_33, lo_34, lo_35, lo_36, lo_37, lo_38, lo_39, lo_40, lo_42, lo_43, lo_44, lo_45, lo_46, lo_47, lo_56, lo_57, lo_59, lPL1, lPL2, lTU1, lTU2, lNT1, lNT2, lTC1, lTC2], by simp only [lo_20, lo_22, lo_23, lo_24, lo_25, lo_26, lo_31, lo_32, lo_33, lo_34, lo_35, lo_36, lo_37, lo_38, lo_39, lo_40, lo_42, lo_43, lo_44, lo_45, lo_46, lo_47, lo_56, lo_57, lo_59, lPL1, lPL2, lTU1, lTU2, lNT1, lNT2, lTC1, lTC2]⟩
theorem l7_lose {x1 : Int32} : lf3 S A (O7_lose S A G x1) := by
  unfold O7_lose
  repeat' apply lf3_i
  all_goals exact ⟨by simp only [lo_20, lo_22, lo_23, lo_24, lo_25, lo_26, lo_31, lo_32, lo_33, lo_34, lo_35, lo_36, lo_37, lo_38, lo_39, lo_40, lo_42, lo_43, lo_44, lo_45, lo_46, lo_47, lo_56, lo_57, lo_59, lPL1, lPL2, lTU1, lTU2, lNT1, lNT2, lTC1, lTC2], by simp only [lo_20, lo_22, lo_23, lo_24, lo_25, lo_26, lo_31, lo_32, lo_33, lo_34, lo_35, lo_36, lo_37, lo_38, lo_39, lo_40, lo_42, lo_43, lo_44, lo_45, lo_46, lo_47, lo_56, lo_57, lo_59, lPL1, lPL2, lTU1, lTU2, lNT1, lNT2, lTC1, lTC2]⟩
theorem l7_repair : lf3 S A (O7_repair S A G ) := by
  unfold O7_repair
  repeat' apply lf3_i
  all_goals exact ⟨by simp only [lo_20, lo_22, lo_23, lo_24, lo_25, lo_26, lo_31, lo_32, lo_33, lo_34, lo_35, lo_36, lo_37, lo_38, lo_39, lo_40, lo_42, lo_43, lo_44, lo_45, lo_46, lo_47, lo_56, lo_57, lo_59, lPL1, lPL2, lTU1, lTU2, lNT1, lNT2, lTC1, lTC2], by simp only [lo_20, lo_22, lo_23, lo_24, lo_25, lo_26, lo_31, lo_32, lo_33, lo_34, lo_35, lo_36, lo_37, lo_38, lo_39, lo_40, lo_42, lo_43, lo_44, lo_45, lo_46, lo_47, lo_56, lo_57, lo_59, lPL1, lPL2, lTU1, lTU2, lNT1, lNT2, lTC1, lTC2]⟩
theorem l7_rec : ∀ (r : Nat) (S A : sS) (z : Int32) (j : Nat), lf3 S A (O7_reconcile_84 G r S A z j) := by
  intro r
  induction r with
  | zero => intro S A z j; exact ⟨rfl, rfl⟩
  | succ r ih =>
    intro S A z j
    rw [O7_reconcile_84]
    unfold O7_reconcile_176
    have q1 : lf3 S A (O7_reconcile_84 G r S (up3 A 40 0 j 0) z (j + 1)) := ⟨(ih _ _ _ _).1, (ih _ _ _ _).2.trans lo_40⟩
    have q2 : lf3 S A (O7_reconcile_84 G r (up3 S 20 0 37 ((S 20 0 37) + 1)) (up3 (up3 A 59 0 ((S 20 0 37).toNatClampNeg) (nI j)) 40 0 j 0) z (j + 1)) := ⟨(ih _ _ _ _).1.trans lo_20, (ih _ _ _ _).2.trans (lo_40.trans lo_59)⟩
    exact lf3_i ⟨lNT1 (G := G), lNT2 (G := G)⟩ (lf3_i q1 (lf3_i (lf3_i q1 (lf3_i q2 q1)) q2))
theorem l7_reconcile : lf3 S A (O7_reconcile S A G) := by
  unfold O7_reconcile
  have q := l7_rec (G := G) 65 (up3 S 20 0 37 0) A 0 0
  have q2 : lf3 S A (O7_reconcile_84 G 65 (up3 S 20 0 37 0) A 0 0) := ⟨q.1.trans lo_20, q.2⟩
  exact lf3_i (lf3_i ⟨rfl, rfl⟩ (lf3_i (lf3_i ⟨rfl, rfl⟩ (lf3_i q2 ⟨rfl, rfl⟩)) ⟨rfl, rfl⟩)) ⟨rfl, rfl⟩
end FRAMES
