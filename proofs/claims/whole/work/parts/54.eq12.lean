/-! every call keeps the invariant; the start has it; the law comes to its end -/
section PREF
variable {n : Nat} {S A : sS} {G : sG} {T B : sS}
theorem q_lo (h : rR n S A G T B) : ∀ i, i < 64 → 0 ≤ (S 15 i 3).toInt ∧ (S 15 i 3).toInt ≤ 6 := fun i hi => (h.2.2.2.1 i hi).2.2.2.2.2.1
theorem q_sz (h : rR n S A G T B) : 0 ≤ (S 6 0 1).toInt ∧ (S 6 0 1).toInt ≤ 300 := h.2.2.2.2.2.2.2.1.2.1
theorem q_oc (h : rR n S A G T B) : 0 ≤ (S 0 0 13).toInt ∧ (S 0 0 13).toInt ≤ 60 := h.2.2.2.2.1.2.1
theorem q_go (h : rR n S A G T B) : ∀ i : Nat, (i : Int) < (S 0 0 13).toInt → ¬ G 4 i = none := fun i hi => (h.2.2.2.2.1.2.2.2.2.2 i hi).1
theorem q_gn (h : rR n S A G T B) : ∀ i : Nat, (S 0 0 13).toInt ≤ (i : Int) → G 4 i = none := h.2.2.2.2.1.2.2.1
theorem q_who (h : rR n S A G T B) : (T 20 0 6).toInt < 16 := by
  rw [h.1.2.2.1]
  rcases who_ok h with q | q
  · rw [q]; decide
  · exact q.2.1
theorem q_ord (h : rR n S A G T B) : 0 ≤ (T 20 0 20).toInt ∧ (T 20 0 20).toInt ≤ 60 := by rw [h.2.2.2.2.1.1]; exact q_oc h
theorem q_lots (h : rR n S A G T B) : ∀ i, i < 64 → 0 ≤ (B 36 0 i).toInt ∧ (B 36 0 i).toInt ≤ 6 := fun i hi => by rw [(h.2.2.2.1 i hi).2.1]; exact q_lo h i hi
theorem q_ent (h : rR n S A G T B) : 0 ≤ (T 20 0 34).toInt ∧ (T 20 0 34).toInt ≤ 300 := by rw [h.2.2.2.2.2.2.2.1.1]; exact q_sz h
theorem q_it (h : rR n S A G T B) : ∀ i, i < 64 → (B 35 0 i).toInt < 32 := fun i hi => by
  rw [(h.2.2.2.1 i hi).1]
  rcases (h.2.2.2.1 i hi).2.2.2.2.1 with q | q
  · rw [q.1]; decide
  · exact q.2.1
theorem q_oi (h : rR n S A G T B) : ∀ i, i < 60 → 0 ≤ (B 42 0 i).toInt ∧ (B 42 0 i).toInt < 32 := h.2.2.2.2.1.2.2.2.2.1
theorem q_sb (h : rR n S A G T B) : 0 ≤ (T 20 0 28).toInt ∧ (T 20 0 28).toInt < 64 := h.2.2.2.2.2.1.2.2.1
theorem q_st (h : rR n S A G T B) : ¬ S 5 0 0 = -1 → 0 ≤ (S 5 0 1).toInt ∧ (S 5 0 1).toInt < 64 := fun a => by
  rw [← (h.2.2.2.2.2.1.2.2.2.2 a).1]; exact q_sb h
theorem q_so (h : rR n S A G T B) : S 5 0 0 = 0 → (0 ≤ (S 5 0 2).toInt ∧ (S 5 0 2).toInt < 60) ∧ ¬ G 4 (S 5 0 2).toNatClampNeg = none := fun a => by
  have q := (h.2.2.2.2.2.1.2.2.2.2 (by rw [a]; decide)).2.2.2.2.1 a
  have r := q_oc h
  refine ⟨⟨q.1, by omega⟩, q_go h _ ?_⟩
  have := cl_i q.1
  omega
theorem q_to (h : rR n S A G T B) : T 20 0 27 = 0 → 0 ≤ (T 20 0 29).toInt ∧ (T 20 0 29).toInt < 60 := fun a => by
  have a' : S 5 0 0 = 0 := h.2.2.2.2.2.1.1.symm.trans a
  rw [(h.2.2.2.2.2.1.2.2.2.2 (by rw [a']; decide)).2.1]
  exact (q_so h a').1
theorem q_mm (h : rR n S A G T B) : (S 0 0 14).toInt ≤ 64 := h.2.2.2.2.2.2.2.2.2.1.2
theorem q_m7 (h : rR n S A G T B) : 0 ≤ (T 20 0 37).toInt ∧ (T 20 0 37).toInt ≤ 64 := by rw [h.2.2.2.2.2.2.2.2.1]; exact h.2.2.2.2.2.2.2.2.2.1
theorem q_f6 (h : rR n S A G T B) {G1 : sG} {x1 x2 x3 : Int32} : 0 ≤ V7_refusal T B G1 x1 x2 x3 → T 20 0 27 = 1 → (B 36 0 (T 20 0 28).toNatClampNeg).toInt < 6 := fun hr hk => by
  have k1 : S 5 0 0 = 1 := h.2.2.2.2.2.1.1.symm.trans hk
  have ho : ¬ S 5 0 0 = -1 := by rw [k1]; decide
  rw [rff (G1 := G1) h hk x1 x2 x3] at hr
  obtain ⟨e28, -, -, e33, -⟩ := h.2.2.2.2.2.1.2.2.2.2 ho
  have h33 : T 20 0 33 = 0 := by
    refine Classical.byContradiction fun z => ?_
    rw [if_pos (show ¬ T 20 0 33 = 0 ∨ (¬ T 20 0 31 = 0 ∧ T 20 0 32 = 0) from Or.inl z)] at hr
    by_cases c1 : V6_isAmount S A G x1 x2 x3 = 0
    · rw [if_pos c1] at hr; exact absurd hr (by decide)
    · rw [if_neg c1] at hr
      by_cases c2 : 0 ≤ T 20 0 6
      · rw [if_pos c2] at hr; exact absurd hr (by decide)
      · rw [if_neg c2] at hr; exact absurd hr (by decide)
  have hb := q_sb h
  rw [(h.2.2.2.1 _ (cl_lt hb.1 hb.2)).2.1, e28]
  exact (h.2.2.2.2.2.2.1 ho).1 k1 (e33.symm.trans h33)
theorem q_300 (h : rR n S A G T B) {G1 : sG} {x1 x2 x3 : Int32} : 0 ≤ V7_refusal T B G1 x1 x2 x3 → (T 20 0 34).toInt < 300 := fun hr => by
  have he := q_ent h
  have no : ¬ T 20 0 34 = 300 := fun z => by
    by_cases hk : T 20 0 27 = 1
    · rw [rff (G1 := G1) h hk x1 x2 x3, if_pos z] at hr
      by_cases c1 : V6_isAmount S A G x1 x2 x3 = 0
      · rw [if_pos c1] at hr; exact absurd hr (by decide)
      rw [if_neg c1] at hr
      by_cases c2 : 0 ≤ T 20 0 6
      · rw [if_pos c2] at hr
        by_cases c3 : ¬ T 20 0 33 = 0 ∨ (¬ T 20 0 31 = 0 ∧ T 20 0 32 = 0)
        · rw [if_pos c3] at hr; exact absurd hr (by decide)
        · rw [if_neg c3] at hr; exact absurd hr (by decide)
      · rw [if_neg c2] at hr; exact absurd hr (by decide)
    · rw [rfo (B := B) (G1 := G1) hk x1 x2 x3] at hr
      simp only [if_pos z] at hr
      by_cases c1 : V7_in T B G1 x1 0 1000 = 0
      · rw [if_pos c1] at hr; exact absurd hr (by decide)
      rw [if_neg c1] at hr
      by_cases c2 : 0 ≤ T 20 0 6
      · rw [if_pos c2] at hr
        by_cases c3 : T 20 0 27 < 0 ∨ T 20 0 27 = 2 ∨ ¬ T 20 0 33 = 0 ∨ (¬ T 20 0 31 = 0 ∧ T 20 0 32 = 0)
        · rw [if_pos c3] at hr; exact absurd hr (by decide)
        rw [if_neg c3] at hr
        by_cases c4 : T 20 0 27 = 0
        · rw [if_pos c4] at hr
          by_cases c5 : x1 ≤ B 43 0 ((T 20 0 29).toNatClampNeg)
          · rw [if_pos c5] at hr
            by_cases c6 : x1 ≤ V7_givableOf T B G1 (T 20 0 28)
            · rw [if_pos c6] at hr; exact absurd hr (by decide)
            · rw [if_neg c6] at hr; exact absurd hr (by decide)
          · rw [if_neg c5] at hr; exact absurd hr (by decide)
        · rw [if_neg c4] at hr
          by_cases c5 : T 20 0 27 = 3
          · rw [if_pos c5] at hr
            by_cases c6 : x1 ≤ V7_bookOf T B G1 (T 20 0 28)
            · rw [if_pos c6] at hr; exact absurd hr (by decide)
            · rw [if_neg c6] at hr; exact absurd hr (by decide)
          · rw [if_neg c5] at hr; exact absurd hr (by decide)
      · rw [if_neg c2] at hr; exact absurd hr (by decide)
  have := ne_i no
  rw [il300] at this
  omega
theorem inv_to {S1 A1 : sS} {G1 : sG} {o : Int32 × sS × sS} (h : rR n S1 A1 G1 o.2.1 o.2.2) (l : lf3 S1 A1 o) : rInv n o.2.1 o.2.2 G1 := h.to l.1 l.2 rfl rfl
theorem inv_at {o : Int32 × sS × sS} (h : rInv n S A G) (f : hf3 S A o) : rR n S A G o.2.1 o.2.2 := rR.to (show rR n S A G S A from h) rfl rfl f.1 f.2
theorem inv_a4 {o : Int32 × sS × sS × Option Nat} (h : rInv n S A G) (f : hf4 S A o) : rR n S A G o.2.1 o.2.2.1 := rR.to (show rR n S A G S A from h) rfl rfl f.1 f.2
end PREF

theorem sw_user : st_user rInv := by
  intro n S A G x1 x2 x3 h hn
  have h1 := inv_a4 h (h6_user (G := G) (x1 := x1) (x2 := x2) (x3 := x3))
  have c := co_user (G1 := aG G 1 (O6_user S A G x1 x2 x3).2.2.2) h1 x1 x2 x3
  exact ⟨c.1, inv_to c.2 l7_user⟩
theorem sw_item : st_item rInv := by
  intro n S A G x1 x2 x3 h hn hb
  have h1 := inv_a4 h (h6_item (G := G) (x1 := x1) (x2 := x2) (x3 := x3))
  have c := co_item (G1 := aG G 2 (O6_item S A G x1 x2 x3).2.2.2) h1 x1 x2 x3
  exact ⟨c.1, inv_to c.2 l7_item⟩
theorem sw_login : st_login rInv := by
  intro n S A G x1 x2 h hn
  have h1 := inv_at h (h6_login (G := G) (x1 := x1) (x2 := x2))
  have c := co_login (G1 := G) h1 x1 x2
  exact ⟨c.1, inv_to c.2 l7_login⟩
theorem sw_logout : st_logout rInv := by
  intro n S A G  h hn
  have h1 := inv_at h (h6_logout (G := G))
  have c := co_logout (G1 := G) h1 
  exact ⟨c.1, inv_to c.2 l7_logout⟩
theorem sw_witness : st_witness rInv := by
  intro n S A G x1 x2 h hn
  have h1 := inv_at h (h6_witness (G := G) (x1 := x1) (x2 := x2))
  have c := co_witness (G1 := G) h1 hn x1 x2
  exact ⟨c.1, inv_to c.2 l7_witness⟩
theorem sw_tick : st_tick rInv := by
  intro n S A G x1 h hn
  have h1 := inv_at h (h6_tick (G := G) (x1 := x1))
  have c := co_tick (G1 := G) h1 hn x1
  exact ⟨c.1, inv_to c.2 l7_tick⟩
theorem sw_order : st_order rInv := by
  intro n S A G x1 x2 x3 x4 h hn
  have h1 := inv_a4 h (h6_order (G := G) (x1 := x1) (x2 := x2) (x3 := x3) (x4 := x4))
  have c := co_order (G1 := aG G 4 (O6_order S A G x1 x2 x3 x4).2.2.2) h1 x1 x2 x3 x4
  exact ⟨q_oc h, q_gn h, q_who h1, q_ord h1, c.1, inv_to c.2 l7_order⟩
theorem sw_cancel : st_cancel rInv := by
  intro n S A G x1 h hn
  have h1 := inv_at h (h6_cancel (G := G) (x1 := x1))
  have c := co_cancel (G1 := G) h1 x1
  exact ⟨q_oc h, q_go h, q_who h1, q_ord h1, c.1, inv_to c.2 l7_cancel⟩
theorem sw_begin : st_begin rInv := by
  intro n S A G x1 x2 h hn
  have h1 := inv_at h (h6_begin (G := G) (x1 := x1) (x2 := x2))
  have c := co_begin (G1 := G) h1 x1 x2
  exact ⟨q_lo h, q_sz h, q_oc h, q_go h, q_who h1, q_ord h1, q_lots h1, q_ent h1, q_it h1, q_oi h1, c.1, inv_to c.2 l7_begin⟩
theorem sw_count : st_count rInv := by
  intro n S A G x1 h hn
  have h1 := inv_at h (h6_count (G := G) (x1 := x1))
  have c := co_count (G1 := G) h1 x1
  exact ⟨q_lo h, q_sz h, q_st h, q_lots h1, q_ent h1, q_sb h1, c.1, inv_to c.2 l7_count⟩
theorem sw_amount : st_amount rInv := by
  intro n S A G x1 x2 x3 h hn
  have h1 := inv_at h (h6_amount (G := G) (x1 := x1) (x2 := x2) (x3 := x3))
  have c := co_amount (G1 := G) h1 x1 x2 x3
  exact ⟨q_lo h, q_sz h, q_st h, q_so h, q_lots h1, q_sb h1, q_to h1, q_ent h1, q_f6 h1, q_300 h1, c.1, inv_to c.2 l7_amount⟩
theorem sw_shut : st_shut rInv := by
  intro n S A G  h hn
  have h1 := inv_at h (h6_shut (G := G))
  have c := co_shut (G1 := G) h1 
  exact ⟨c.1, inv_to c.2 l7_shut⟩
theorem sw_giveBack : st_giveBack rInv := by
  intro n S A G x1 x2 h hn
  have h1 := inv_at h (h6_giveBack (G := G) (x1 := x1) (x2 := x2))
  have c := co_giveBack (G1 := G) h1 x1 x2
  exact ⟨q_sz h, q_who h1, q_ent h1, c.1, inv_to c.2 l7_giveBack⟩
theorem sw_reconcile : st_reconcile rInv := by
  intro n S A G  h hn
  have h1 := inv_at h (h6_reconcile (G := G))
  have c := co_reconcile (G1 := G) h1 
  exact ⟨q_sz h, q_who h1, q_ent h1, q_it h1, c.1, inv_to c.2 l7_reconcile⟩
theorem sw_mismatch : st_mismatch rInv := by
  intro n S A G x1 h hn
  have h : rR n S A G S A := h
  exact ⟨q_mm h, q_m7 h, pv_mismatch (G1 := G) h x1, h.mono⟩
theorem sw_bin : st_bin rInv := by
  intro n S A G x1 x2 h hn
  have h : rR n S A G S A := h
  exact ⟨q_lo h, q_lots h, pv_bin (G1 := G) h x1 x2, h.mono⟩
theorem sw_lot : st_lot rInv := by
  intro n S A G x1 x2 x3 h hn hb
  have h : rR n S A G S A := h
  exact ⟨q_lo h, q_lots h, pv_lot (G1 := G) h x1 x2 x3, h.mono⟩
theorem sw_stock : st_stock rInv := by
  intro n S A G x1 x2 h hn
  have h : rR n S A G S A := h
  exact ⟨q_lo h, q_lots h, pv_stock (G1 := G) h x1 x2, h.mono⟩
theorem sw_wanted : st_wanted rInv := by
  intro n S A G x1 h hn
  have h : rR n S A G S A := h
  exact ⟨q_lo h, q_lots h, pv_wanted (G1 := G) h x1, h.mono⟩
theorem sw_orderTold : st_orderTold rInv := by
  intro n S A G x1 x2 h hn
  have h : rR n S A G S A := h
  exact ⟨q_oc h, q_go h, q_ord h, pv_orderTold (G1 := G) h x1 x2, h.mono⟩
theorem sw_alarms : st_alarms rInv := by
  intro n S A G  h hn
  have h : rR n S A G S A := h
  exact ⟨q_lo h, q_lots h, pv_alarms (G1 := G) h , h.mono⟩
theorem sw_told : st_told rInv := by
  intro n S A G x1 h hn
  have h : rR n S A G S A := h
  exact ⟨pv_told (G1 := G) h x1, h.mono⟩
theorem sw_entry : st_entry rInv := by
  intro n S A G x1 x2 h hn
  have h : rR n S A G S A := h
  exact ⟨q_sz h, q_ent h, pv_entry (G1 := G) h x1 x2, h.mono⟩
theorem sw_lose : st_lose rInv := by
  intro n S A G x1 h hn
  have h1 := inv_at h (h6_lose (G := G) (x1 := x1))
  have c := co_lose (G1 := G) h1 x1
  exact ⟨c.1, inv_to c.2 l7_lose⟩
theorem sw_repair : st_repair rInv := by
  intro n S A G  h hn
  have h1 := inv_at h (h6_repair (G := G))
  have c := co_repair (G1 := G) h1 
  exact ⟨q_sz h, c.1, inv_to c.2 l7_repair⟩
theorem sw_audit : st_audit rInv := by
  intro n S A G h hn
  have h : rR n S A G S A := h
  obtain ⟨A0, r0, f0⟩ := co_audit (G1 := G) h
  have h1 : rR n S A G S A0 := h.to rfl rfl rfl (f8_hi f0)
  obtain ⟨A1, r1, f1⟩ := co_audit (G1 := G) h1
  rw [r0] at r1
  have e : A0 = A1 := congrArg (fun q => q.2.2) r1
  rw [r0]
  have h2 : rR n S A0 G S A0 := f8_rR h1 f0
  exact ⟨q_lo h, q_sz h, q_lots h1, q_ent h1, congrArg Prod.fst r1, h2.mono⟩
theorem S00_15 {b k : Nat} (hk : ¬ k = 2) : S00 15 b k = 0 := by
  show (if 15 = 15 ∧ b < 64 ∧ k = 2 then (-1 : Int32) else 0) = 0
  rw [if_neg (fun z => hk z.2.2)]
theorem S00_152 {b : Nat} (hb : b < 64) : S00 15 b 2 = -1 := by
  show (if 15 = 15 ∧ b < 64 ∧ 2 = 2 then (-1 : Int32) else 0) = -1
  rw [if_pos ⟨rfl, hb, rfl⟩]
theorem A00_35 {b : Nat} (hb : b < 64) : A00 35 0 b = -1 := by
  show (if 35 = 35 ∧ 0 = 0 ∧ b < 64 then (-1 : Int32) else 0) = -1
  rw [if_pos ⟨rfl, rfl, hb⟩]
theorem inv00 : rInv 0 S00 A00 G00 := by
  refine ⟨⟨rfl, (by decide : 0 ≤ (0 : Int32).toInt ∧ (0 : Int32).toInt ≤ 1000 * ((0 : Nat) : Int)), rfl, rfl, (by decide : 0 ≤ (0 : Int32).toInt ∧ (0 : Int32).toInt ≤ (0 : Int32).toInt), rfl, (wat_w (T := S00) rfl).symm⟩, ⟨Or.inl rfl, fun u hu => ?_⟩, fun k hk => ?_, fun b hb => ?_, ?_, ?_, fun z => absurd rfl z, ?_, ?_⟩
  · exact ⟨fun _ => ⟨rfl, rfl, rfl⟩, fun z => absurd (G00_n (by decide) (by decide)) z⟩
  · exact ⟨fun _ => ⟨rfl, rfl⟩, fun z => absurd (G00_n (by decide) (by decide)) z⟩
  · unfold rB1
    rw [S00_152 hb, S00_15 (k := 3) (by decide), S00_15 (k := 4) (by decide), S00_15 (k := 5) (by decide), A00_35 hb]
    exact ⟨rfl, rfl, rfl, rfl, Or.inl ⟨rfl, rfl, rfl⟩, (by decide : 0 ≤ (0 : Int32).toInt ∧ (0 : Int32).toInt ≤ 6), fun k hk => by rw [il0] at hk; omega, fun j k hjk hk => by rw [il0] at hk; omega⟩
  · exact ⟨rfl, (by decide : 0 ≤ (0 : Int32).toInt ∧ (0 : Int32).toInt ≤ 60), fun q _ => G00_n (by decide) (by decide), fun q _ => rfl, fun q _ => (by decide : 0 ≤ (0 : Int32).toInt ∧ (0 : Int32).toInt < 32), fun q hq => absurd (show (q : Int) < (0 : Int32).toInt from hq) (by rw [il0]; omega)⟩
  · exact ⟨rfl, (by decide : -1 ≤ (-1 : Int32).toInt ∧ (-1 : Int32).toInt ≤ 3), (by decide : 0 ≤ (0 : Int32).toInt ∧ (0 : Int32).toInt < 64), fun _ => ⟨rfl, rfl⟩, fun z => absurd rfl z⟩
  · exact ⟨rfl, (by decide : 0 ≤ (0 : Int32).toInt ∧ (0 : Int32).toInt ≤ 300), ⟨rfl, rfl⟩, fun c _ _ i hi => absurd (show (i : Int) < 6 * (0 : Int32).toInt from hi) (by rw [il0]; omega), fun j hj => absurd (show (j : Int) < (0 : Int32).toInt from hj) (by rw [il0]; omega)⟩
  · exact ⟨rfl, (by decide : 0 ≤ (0 : Int32).toInt ∧ (0 : Int32).toInt ≤ 64), fun i hi => absurd (show (i : Int) < (0 : Int32).toInt from hi) (by rw [il0]; omega)⟩
/-- from the entry, for every script of at most 2560 ints, the law comes to its end with true -/
theorem whole_start {p : Program} {e : Env} {s : State} {m : MethodId} {below : List Frame} {meth : Method} {c : Code} (l : Launch) {b L : Nat} {xs : Nat → Int32} (hL : L ≤ 2560) (C0 : lw_At p s m meth c b L xs) : W p l e room_1 s m #[Value.ref b] below meth c s.heap [] 0 0 (lw_Z below #[Value.ref b] s) (entryFrame m ([Value.ref b] : List Value).toArray 4) :=
  law_all hL C0 inv00 (fun _ _ _ _ h => rR.mono h) sw_user sw_item sw_login sw_logout sw_witness sw_tick sw_order sw_cancel sw_begin sw_count sw_amount sw_shut sw_giveBack sw_reconcile sw_mismatch sw_bin sw_lot sw_stock sw_wanted sw_orderTold sw_alarms sw_told sw_entry sw_lose sw_repair sw_audit
