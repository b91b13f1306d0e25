/-! PART 87: an interpreted instruction keeps both alike -/
def RLL (σ ρ : Nat → Nat → Int32) (n e tc a : Nat) : Prop := CD σ ρ n ∧ FLG σ ρ ∧ FR σ ρ e ∧ GV σ ρ ∧ TAL σ ρ ∧ PLC σ ρ tc ∧ TCN σ ρ tc ∧ LIV σ ρ n e a ∧ ∀ t, t < tc → TRI σ ρ t n
section
variable {σ ρ σ' ρ' s r : Nat → Nat → Int32} {n e tc a : Nat}
theorem RLL.rel (h : RLL σ ρ n e tc a) (hr : RCD σ ρ n e tc) : REL σ ρ n e tc := by
  obtain ⟨h1, h2, h3, h4, h5, h6, h7, h8, h9⟩ := h
  exact ⟨h1, h2, h3, h4, h5, h6.w, h7, hr, Or.inr (Or.inr ⟨a, h8⟩), h9⟩
theorem REL.rll (h : REL σ ρ n e tc) (hl : LIV σ ρ n e a) : RLL σ ρ n e tc a := by
  obtain ⟨h1, h2, h3, h4, h5, h6, h7, h8, h9, h10⟩ := h
  exact ⟨h1, h2, h3, h4, h5, h6.2 hl.1, h7, hl, h10⟩
theorem tr_big {t i : Nat} : 28 ≤ tr t + i := by unfold tr; omega
theorem tr_sml {t i : Nat} (h : t < 4) (hi : i ≤ 15) : tr t + i < 92 := by unfold tr; omega
theorem RLL.to (h : RLL σ ρ n e tc a) (hs : ∀ b, ¬ (13 ≤ b ∧ b ≤ 18) → σ' b = σ b) (hr : ∀ b, ¬ (b = 92 ∨ (99 ≤ b ∧ b ≤ 102)) → ρ' b = ρ b) (hr92 : ∀ i, i ≠ 15 → i ≠ 16 → ρ' 92 i = ρ 92 i) (hp : PLC σ' ρ' tc) : RLL σ' ρ' n e tc a := by
  obtain ⟨h1, h2, h3, h4, h5, h6, h7, h8, h9⟩ := h
  have e2 : σ' 2 = σ 2 := hs 2 (by omega)
  have e3 : σ' 3 = σ 3 := hs 3 (by omega)
  have e0 : σ' 0 = σ 0 := hs 0 (by omega)
  refine ⟨h1.to (by rw [hs 1 (by omega)]) e2 e3 (hr92 1 (by omega) (by omega)) (hr 93 (by omega)) (hr 94 (by omega)), ?_, ?_, h4.to (hs 9 (by omega)) (hs 10 (by omega)) (hr92 11 (by omega) (by omega)) (hr 98 (by omega)), ?_, hp, ?_, ?_, fun t ht => (h9 t ht).to e2 e3 (fun i hi => hs _ (by have := @tr_big t i; omega)) (hr 93 (by omega)) (hr 94 (by omega)) (fun b hb => by rw [hr b (by omega)]) (fun b j h1 h2 _ => by rw [hr b (by omega)]) (Or.inr ⟨by rw [e0], hs 7 (by omega)⟩)⟩
  · unfold FLG at h2 ⊢; rw [e0, hr92 5 (by omega) (by omega), hr92 6 (by omega) (by omega)]; exact h2
  · unfold FR at h3 ⊢; rw [hs 6 (by omega), hs 7 (by omega), hs 8 (by omega), hr 96 (by omega), hr 97 (by omega), hr92 9 (by omega) (by omega)]; exact h3
  · unfold TAL at h5 ⊢; rw [hs 11 (by omega), hr92 31 (by omega) (by omega), hr92 32 (by omega) (by omega), hr92 33 (by omega) (by omega), hr92 34 (by omega) (by omega)]; exact h5
  · unfold TCN at h7 ⊢; rw [e0, hr92 19 (by omega) (by omega), hr92 20 (by omega) (by omega)]; exact h7
  · unfold LIV at h8 ⊢; rw [e0, (cd_eq e2 e3).1, (cd_eq e2 e3).2, hs 6 (by omega), hr92 7 (by omega) (by omega)]; exact h8
theorem cor_rll {e' a' op : Nat} {y : Int32} (h : RLL σ ρ n e tc a) (hc : COR σ ρ s r n e a op e' a' y) : RLL s r n e' tc a' := by
  obtain ⟨h1, h2, h3, h4, h5, h6, h7, h8, h9⟩ := h
  obtain ⟨_, c2, c3, c4, c5, c6, c7, c8, c9, c10, c11, c12, c13, _⟩ := hc
  have e2 : s 2 = σ 2 := c10 2 (by omega)
  have e3 : s 3 = σ 3 := c10 3 (by omega)
  refine ⟨h1.to (by rw [c10 1 (by omega)]) e2 e3 (c13 1 (by omega) (by omega) (by omega) (by omega) (by omega)) (c12 93 (by omega)) (c12 94 (by omega)), ?_, c2, c3, c4, ?_, ?_, ?_, fun t ht => (h9 t ht).to e2 e3 (fun i hi => c10 _ (by have := @tr_big t i; omega)) (c12 93 (by omega)) (c12 94 (by omega)) (fun b hb => by rw [c12 b (by omega)]) (fun b j h1 h2 _ => by rw [c12 b (by omega)]) (Or.inl ?_)⟩
  · unfold FLG at h2 ⊢; rw [c11 9 (by omega), c11 11 (by omega), c13 5 (by omega) (by omega) (by omega) (by omega) (by omega), c13 6 (by omega) (by omega) (by omega) (by omega) (by omega)]; exact h2
  · unfold PLC at h6 ⊢; rw [c10 13 (by omega), c10 14 (by omega), c10 15 (by omega), c12 99 (by omega), c12 100 (by omega)]
    intro i hi
    rw [tof_congr (c12 103 (by omega))]
    exact h6 i hi
  · unfold TCN at h7 ⊢; rw [c11 8 (by omega), c13 19 (by omega) (by omega) (by omega) (by omega) (by omega), c5, c6]
    exact ⟨h7.1, h7.2.1, h7.2.2.1, rfl, Or.inl rfl⟩
  · unfold LIV at h8 ⊢; rw [c11 9 (by omega), c11 10 (by omega), (cd_eq e2 e3).1, (cd_eq e2 e3).2]
    exact ⟨h8.1, h8.2.1, h8.2.2.1, c7, c8, c9⟩
  · rw [c5]; have := h7.1; exact fun q => nI_m1 (n := t) (by omega) q.symm
/-- not recorded, nothing counted -/
theorem int_no {e' a' op : Nat} {y : Int32} (h : RLL σ ρ n e tc a) (hc : COR σ ρ s r n e a op e' a' y) (h16 : σ 16 2 = -1) (h15 : ρ 92 15 = -1) : REL s r n e' tc := by
  refine (cor_rll h hc).rel (Or.inl ⟨?_, ?_⟩)
  · rw [hc.2.2.2.2.2.2.2.2.2.1 16 (by omega)]; exact h16
  · rw [hc.2.2.2.2.2.2.2.2.2.2.2.2.1 15 (by omega) (by omega) (by omega) (by omega) (by omega)]; exact h15
/-- a jump is counted -/
theorem hot_rel (h : RLL σ ρ n e tc a) (h16 : σ 16 2 = -1) (h15 : ρ 92 15 = -1) (ht : ¬ σ 0 11 = 0) : REL (cjS σ a) (htS ρ a) n e tc := by
  obtain ⟨han, _⟩ := h.2.2.2.2.2.2.2.1.good
  have h40 : a < 40 := by have := h.1.1; omega
  obtain ⟨p1, p2, p3⟩ := h.2.2.2.2.2.1 a h40
  have htr : ¬ ρ 92 6 = 0 := by rw [h.2.1.2.2]; exact ht
  have h15' : ρ 92 15 < 0 := by rw [h15]; decide
  obtain ⟨t4, t1, t2, _⟩ := h.2.2.2.2.2.2.1
  obtain ⟨f1, f2, f3, _⟩ := h.2.2.1
  by_cases hm : σ 14 a = 0
  · have hm' : ρ 100 a = 0 := by rw [← p2]; exact hm
    have ec : cjS σ a = if ¬ nI 3 ≤ σ 13 a + 1 then z_up σ 13 a (σ 13 a + 1) else if σ 6 2 = 0 ∧ ¬ nI 4 ≤ σ 0 8 then z_up (z_up (z_up σ 13 a (σ 13 a + 1)) 16 2 (nI a)) 16 3 0 else z_up (z_up σ 13 a (σ 13 a + 1)) 14 a (nI 2) := by
      unfold cjS; rw [if_neg (fun q => q hm)]
    have er : htS ρ a = if ¬ nI 3 ≤ σ 13 a + 1 then z_up ρ 99 a (σ 13 a + 1) else if ρ 92 19 = nI 4 ∨ ¬ ρ 92 9 ≤ 0 then z_up (z_up ρ 99 a (σ 13 a + 1)) 100 a (nI 2) else z_up (z_up (z_up ρ 99 a (σ 13 a + 1)) 92 15 (nI a)) 92 16 0 := by
      unfold htS; rw [if_neg (fun q => q.elim htr (fun q => q.elim (fun q => q hm') (fun q => q h15'))), ← p1]
    have pl : PLC (z_up σ 13 a (σ 13 a + 1)) (z_up ρ 99 a (σ 13 a + 1)) tc := by
      intro i hi
      obtain ⟨q1, q2, q3⟩ := h.2.2.2.2.2.1 i hi
      rw [z_up_row, z_up_row, upE, upE, z_up_ne _ _ _ (by omega), z_up_ne _ _ _ (by omega), z_up_ne _ _ _ (by omega), tof_congr (z_up_ne _ _ _ (by omega)), q1]
      exact ⟨rfl, q2, q3⟩
    have pl2 : PLC (z_up (z_up σ 13 a (σ 13 a + 1)) 14 a (nI 2)) (z_up (z_up ρ 99 a (σ 13 a + 1)) 100 a (nI 2)) tc := by
      intro i hi
      obtain ⟨q1, q2, q3⟩ := pl i hi
      refine ⟨?_, ?_, ?_⟩
      · rw [z_up_ne (i := 14) _ _ _ (by omega), z_up_ne (i := 100) _ _ _ (by omega)]; exact q1
      · rw [z_up_row (i := 14), z_up_row (i := 100), upE, upE, q2]
      · rw [z_up_ne (i := 14) _ _ _ (by omega), tof_congr (ρ := z_up ρ 99 a (σ 13 a + 1)) (z_up_ne _ _ _ (by omega))]; exact q3
    by_cases h3 : nI 3 ≤ σ 13 a + 1
    · have c1 : (σ 6 2 = 0 ∧ ¬ nI 4 ≤ σ 0 8) ↔ ¬ (ρ 92 19 = nI 4 ∨ ¬ ρ 92 9 ≤ 0) := by
        rw [f1, f2, t1, t2]
        constructor
        · rintro ⟨q1, q2⟩ q
          rcases q with q | q
          · exact q2 (by rw [q]; exact nI_le (by omega) (by omega))
          · exact q (by rw [q1]; decide)
        · intro q
          constructor
          · by_cases he : e = 0
            · rw [he]; rfl
            · exact absurd (Or.inr (nI_nle (by omega) (by omega))) q
          · intro w
            apply q
            left
            have : ¬ tc < 4 := fun z => nI_ge z (by omega) w
            rw [show tc = 4 by omega]
      by_cases hc : σ 6 2 = 0 ∧ ¬ nI 4 ≤ σ 0 8
      · rw [if_neg (fun q => q h3), if_pos hc] at ec
        rw [if_neg (fun q => q h3), if_neg (c1.mp hc)] at er
        rw [ec, er]
        have he : e = 0 := by
          have q := hc.1
          rw [f1, zero_nI] at q
          exact nI_ne' q (by omega) (by omega)
        have ht4 : tc < 4 := Nat.lt_of_not_le fun w => hc.2 (by rw [t1]; exact nI_le w (by omega))
        have R := h.to (σ' := z_up (z_up (z_up σ 13 a (σ 13 a + 1)) 16 2 (nI a)) 16 3 0) (ρ' := z_up (z_up (z_up ρ 99 a (σ 13 a + 1)) 92 15 (nI a)) 92 16 0) (fun b hb => by rw [z_up_ne _ _ _ (by omega), z_up_ne _ _ _ (by omega), z_up_ne _ _ _ (by omega)]) (fun b hb => by rw [z_up_ne _ _ _ (by omega), z_up_ne _ _ _ (by omega), z_up_ne _ _ _ (by omega)]) (fun i i1 i2 => by rw [z_up_o _ _ (Or.inr i2), z_up_o _ _ (Or.inr i1), z_up_ne _ _ _ (by omega)]) (by
          intro i hi
          obtain ⟨q1, q2, q3⟩ := pl i hi
          refine ⟨?_, ?_, ?_⟩
          · rw [z_up_ne (i := 16) _ _ _ (by omega), z_up_ne (i := 16) _ _ _ (by omega), z_up_ne (i := 92) _ _ _ (by omega), z_up_ne (i := 92) _ _ _ (by omega)]; exact q1
          · rw [z_up_ne (i := 16) _ _ _ (by omega), z_up_ne (i := 16) _ _ _ (by omega), z_up_ne (i := 92) _ _ _ (by omega), z_up_ne (i := 92) _ _ _ (by omega)]; exact q2
          · rw [z_up_ne (i := 16) _ _ _ (by omega), z_up_ne (i := 16) _ _ _ (by omega), tof_congr (ρ := z_up ρ 99 a (σ 13 a + 1)) (by rw [z_up_ne _ _ _ (by omega), z_up_ne _ _ _ (by omega)])]; exact q3)
        obtain ⟨_, lb, _, _, _, lr⟩ := R.2.2.2.2.2.2.2.1
        refine R.rel (Or.inr ⟨a, han, ?_, ?_, by rw [he] at lr; exact lr, ht4, ⟨0, fun _ => 0, fun _ => 0, fun _ => z_up (z_up (z_up σ 13 a (σ 13 a + 1)) 16 2 (nI a)) 16 3 0 7, fun _ => z_up (z_up (z_up σ 13 a (σ 13 a + 1)) 16 2 (nI a)) 16 3 0 8, ?_, ?_, ⟨by omega, fun j hj => absurd hj (by omega)⟩, fun j hj => absurd hj (by omega), fun j hj => absurd hj (by omega), he.symm, fun _ _ => rfl, fun _ _ => rfl⟩⟩)
        · rw [z_up_o _ _ (by omega), z_up_s]
        · rw [z_up_o _ _ (by omega), z_up_s]
        · rw [z_up_s, nI_0]
        · rw [z_up_s, nI_0]
      · rw [if_neg (fun q => q h3), if_neg hc] at ec
        rw [if_neg (fun q => q h3), if_pos (Classical.byContradiction fun w => hc (c1.mpr w))] at er
        rw [ec, er]
        refine (h.to (fun b hb => by rw [z_up_ne _ _ _ (by omega), z_up_ne _ _ _ (by omega)]) (fun b hb => by rw [z_up_ne _ _ _ (by omega), z_up_ne _ _ _ (by omega)]) (fun i i1 i2 => by rw [z_up_ne _ _ _ (by omega), z_up_ne _ _ _ (by omega)]) pl2).rel (Or.inl ⟨?_, ?_⟩)
        · rw [z_up_ne _ _ _ (by omega), z_up_ne _ _ _ (by omega)]; exact h16
        · rw [z_up_ne _ _ _ (by omega), z_up_ne _ _ _ (by omega)]; exact h15
    · rw [if_pos h3] at ec er
      rw [ec, er]
      refine (h.to (fun b hb => by rw [z_up_ne _ _ _ (by omega)]) (fun b hb => by rw [z_up_ne _ _ _ (by omega)]) (fun i i1 i2 => by rw [z_up_ne _ _ _ (by omega)]) pl).rel (Or.inl ⟨?_, ?_⟩)
      · rw [z_up_ne _ _ _ (by omega)]; exact h16
      · rw [z_up_ne _ _ _ (by omega)]; exact h15
  · have ec : cjS σ a = σ := by unfold cjS; rw [if_pos hm]
    have er : htS ρ a = ρ := by unfold htS; rw [if_pos (Or.inr (Or.inl (by rw [← p2]; exact hm)))]
    rw [ec, er]
    exact h.rel (Or.inl ⟨h16, h15⟩)
/-- recording is given up -/
theorem gu_rel {p : Nat} (h : RLL σ ρ n e tc a) (hp : p < 40) : REL (guS σ p) (rgu ρ p) n e tc := by
  have pl : PLC (guS σ p) (rgu ρ p) tc := by
    intro i hi
    obtain ⟨q1, q2, q3⟩ := h.2.2.2.2.2.1 i hi
    unfold guS rgu
    refine ⟨?_, ?_, ?_⟩
    · rw [z_up_ne (i := 16) _ _ _ (by omega), z_up_ne (i := 14) _ _ _ (by omega), z_up_ne (i := 92) _ _ _ (by omega), z_up_ne (i := 100) _ _ _ (by omega)]; exact q1
    · rw [z_up_ne (i := 16) _ _ _ (by omega), z_up_row (i := 14), z_up_ne (i := 92) _ _ _ (by omega), z_up_row (i := 100), upE, upE, q2]
    · rw [z_up_ne (i := 16) _ _ _ (by omega), z_up_ne (i := 14) _ _ _ (by omega), tof_congr (ρ := ρ) (by rw [z_up_ne _ _ _ (by omega), z_up_ne _ _ _ (by omega)])]; exact q3
  refine (h.to (fun b hb => ?_) (fun b hb => ?_) (fun i i1 i2 => ?_) pl).rel (Or.inl ⟨?_, ?_⟩)
  · unfold guS; rw [z_up_ne _ _ _ (by omega), z_up_ne _ _ _ (by omega)]
  · unfold rgu; rw [z_up_ne _ _ _ (by omega), z_up_ne _ _ _ (by omega)]
  · unfold rgu; rw [z_up_o _ _ (Or.inr i1), z_up_ne _ _ _ (by omega)]
  · unfold guS; rw [z_up_s]
  · unfold rgu; rw [z_up_s]
end
