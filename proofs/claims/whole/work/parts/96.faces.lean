/-! PART 96: what add, begin and clear do to both -/
section
variable {σ ρ σ' ρ' s r : Nat → Nat → Int32} {n e tc : Nat}
theorem REL.congr (h : REL σ ρ n e tc) (hs : ∀ b, b < 92 → σ' b = σ b) (hr0 : ∀ b, 92 < b → b ≠ 95 → ρ' b = ρ b) (hr92 : ∀ i, i ≠ 0 → ρ' 92 i = ρ 92 i) : REL σ' ρ' n e tc := by
  have hr : ∀ b, 92 < b ∧ b ≠ 95 → ρ' b = ρ b := fun b hb => hr0 b hb.1 hb.2
  obtain ⟨h1, h2, h3, h4, h5, h6, h7, h8, h9, h10⟩ := h
  have e2 : σ' 2 = σ 2 := hs 2 (by omega)
  have e3 : σ' 3 = σ 3 := hs 3 (by omega)
  have e0 : σ' 0 = σ 0 := hs 0 (by omega)
  refine ⟨h1.to (by rw [hs 1 (by omega)]) e2 e3 (hr92 1 (by omega)) (hr 93 (by omega)) (hr 94 (by omega)), ?_, ?_, h4.to (hs 9 (by omega)) (hs 10 (by omega)) (hr92 11 (by omega)) (hr 98 (by omega)), ?_, ?_, ?_, ?_, ?_, fun t ht => (h10 t ht).to e2 e3 (fun i hi => hs _ (tr_sml (by have := h7.1; omega) hi)) (hr 93 (by omega)) (hr 94 (by omega)) (fun b hb => by rw [hr b (by omega)]) (fun b j h1 h2 _ => by rw [hr b (by omega)]) (Or.inr ⟨by rw [e0], hs 7 (by omega)⟩)⟩
  · unfold FLG at h2 ⊢; rw [e0, hr92 5 (by omega), hr92 6 (by omega)]; exact h2
  · unfold FR at h3 ⊢; rw [hs 6 (by omega), hs 7 (by omega), hs 8 (by omega), hr 96 (by omega), hr 97 (by omega), hr92 9 (by omega)]; exact h3
  · unfold TAL at h5 ⊢; rw [hs 11 (by omega), hr92 31 (by omega), hr92 32 (by omega), hr92 33 (by omega), hr92 34 (by omega)]; exact h5
  · unfold PLW PLC at h6 ⊢
    rw [e0, hs 13 (by omega), hs 14 (by omega), hs 15 (by omega), hr 99 (by omega), hr 100 (by omega)]
    refine ⟨h6.1, fun q i hi => ?_⟩
    rw [tof_congr (hr 103 (by omega))]
    exact h6.2 q i hi
  · unfold TCN at h7 ⊢; rw [e0, hr92 19 (by omega), hr92 20 (by omega)]; exact h7
  · unfold RCD at h8 ⊢
    rw [hs 16 (by omega), hr92 15 (by omega), (cd_eq e2 e3).1, (cd_eq e2 e3).2]
    rcases h8 with h8 | ⟨p, a1, a2, a3, a4, a5, g, k, op, Lr, Sr, b1, b2, b3, b4, b5, b6, b7, b8⟩
    · exact Or.inl h8
    · refine Or.inr ⟨p, a1, a2, a3, a4, a5, g, k, op, Lr, Sr, by rw [hs 16 (by omega)]; exact b1, by rw [hr92 16 (by omega)]; exact b2, b3.to e2 e3 (hr 93 (by omega)) (hr 94 (by omega)) (fun j hj => ?_), b4.to e3 (fun j hj => by rw [hs 18 (by omega)]), b5.to e2 e3, b6, by rw [hs 7 (by omega)]; exact b7, by rw [hs 8 (by omega)]; exact b8⟩
      rw [hs 17 (by omega), hs 18 (by omega), hr 101 (by omega), hr 102 (by omega)]
      exact ⟨rfl, rfl, rfl, rfl⟩
  · unfold ATT LIV at h9 ⊢
    rw [e0, hs 16 (by omega), hs 6 (by omega), hr92 7 (by omega), (cd_eq e2 e3).1, (cd_eq e2 e3).2]
    exact h9
theorem fresh_rel (hc : CD s r n) (hf : FLG s r) (f62 : s 6 2 = 0) (r9 : r 92 9 = 0) (hl : ∀ l, l < 6 → s 7 l = r 96 l) (g1 : s 9 1 = 0) (g2 : s 9 2 = 0) (r11 : r 92 11 = 0) (t0 : ∀ i, i < 4 → s 11 i = 0) (r31 : ∀ i, 31 ≤ i → i < 35 → r 92 i = 0) (p : ∀ i, i < 40 → s 13 i = 0 ∧ r 99 i = 0 ∧ s 14 i = 0 ∧ r 100 i = 0) (p15 : s 0 9 = 1 → ∀ i, i < 40 → s 15 i = -1) (c8 : s 0 8 = 0) (r19 : r 92 19 = 0) (l12 : s 0 12 = -1) (r20 : r 92 20 = -1) (s16 : s 16 2 = -1) (r15 : r 92 15 = -1) (hA : ATT s r n 0 0) : REL s r n 0 0 := by
  refine ⟨hc, hf, ⟨by rw [f62, nI_0], by rw [r9, nI_0], by omega, hl, fun x hx => absurd hx (by omega)⟩, ⟨0, 0, by omega, by rw [g1, nI_0], by rw [g2, nI_0], by rw [r11, nI_0], fun j _ hj => absurd hj (by omega)⟩, ⟨?_, ?_, ?_, ?_⟩, ⟨fun i hi => ?_, fun w i hi => ?_⟩, ⟨by omega, by rw [c8, nI_0], by rw [r19, nI_0], by rw [r20, l12], Or.inl l12⟩, Or.inl ⟨s16, r15⟩, hA, fun t ht => absurd ht (by omega)⟩
  · rw [t0 0 (by omega), r31 31 (by omega) (by omega)]
  · rw [t0 1 (by omega), r31 32 (by omega) (by omega)]
  · rw [t0 2 (by omega), r31 33 (by omega) (by omega)]
  · rw [t0 3 (by omega), r31 34 (by omega) (by omega)]
  · obtain ⟨q1, q2, q3, q4⟩ := p i hi
    exact ⟨by rw [q1, q2], by rw [q3, q4]⟩
  · obtain ⟨q1, q2, q3, q4⟩ := p i hi
    exact ⟨by rw [q1, q2], by rw [q3, q4], p15 w i hi⟩
theorem fgP_rows : (∀ b, ¬ (b = 0 ∨ b = 6 ∨ b = 7 ∨ b = 9 ∨ b = 11 ∨ (13 ≤ b ∧ b ≤ 16)) → fgP σ b = σ b) ∧ (∀ i, i ≠ 8 → i ≠ 10 → i ≠ 12 → fgP σ 0 i = σ 0 i) ∧ fgP σ 0 8 = 0 ∧ fgP σ 0 10 = 0 ∧ fgP σ 0 12 = -1 ∧ fgP σ 6 2 = 0 ∧ fgP σ 6 3 = 0 ∧ (∀ l, l < 6 → fgP σ 7 l = 0) ∧ fgP σ 9 1 = 0 ∧ fgP σ 9 2 = 0 ∧ (∀ i, i < 4 → fgP σ 11 i = 0) ∧ (∀ i, i < 40 → fgP σ 13 i = 0 ∧ fgP σ 14 i = 0 ∧ fgP σ 15 i = -1) ∧ fgP σ 16 2 = -1 := by
  unfold fgP fillR
  refine ⟨fun b hb => ?_, fun i h1 h2 h3 => ?_, ?_, ?_, ?_, ?_, ?_, fun l hl => ?_, ?_, ?_, fun i hi => ?_, fun i hi => ⟨?_, ?_, ?_⟩, ?_⟩
  · have h0 : b ≠ 0 := by omega
    have h6 : b ≠ 6 := by omega
    have h7 : b ≠ 7 := by omega
    have h9 : b ≠ 9 := by omega
    have h11 : b ≠ 11 := by omega
    have h13 : b ≠ 13 := by omega
    have h14 : b ≠ 14 := by omega
    have h15 : b ≠ 15 := by omega
    have h16 : b ≠ 16 := by omega
    simp only [z_up_ne, z_row_ne, h0, h6, h7, h9, h11, h13, h14, h15, h16, ne_eq, not_false_eq_true]
  · simp [z_up, z_row, h1, h2, h3]
  · simp [z_up, z_row]
  · simp [z_up, z_row]
  · simp [z_up, z_row]
  · simp [z_up, z_row]
  · simp [z_up, z_row]
  · simp [z_up, z_row, hl]
  · simp [z_up, z_row]
  · simp [z_up, z_row]
  · have : i = 0 ∨ i = 1 ∨ i = 2 ∨ i = 3 := by omega
    rcases this with rfl | rfl | rfl | rfl <;> simp [z_up, z_row]
  · simp [z_up, z_row, hi]
  · simp [z_up, z_row, hi]
  · simp [z_up, z_row, hi]
  · simp [z_up, z_row]
theorem frS_rows : (∀ b, ¬ (b = 92 ∨ b = 96 ∨ b = 99 ∨ b = 100) → frS ρ b = ρ b) ∧ (∀ i, ¬ (i = 9 ∨ i = 11 ∨ i = 15 ∨ i = 19 ∨ i = 20 ∨ (31 ≤ i ∧ i ≤ 34)) → frS ρ 92 i = ρ 92 i) ∧ (∀ l, l < 6 → frS ρ 96 l = 0) ∧ frS ρ 92 9 = 0 ∧ frS ρ 92 11 = 0 ∧ (∀ i, i < 40 → frS ρ 99 i = 0 ∧ frS ρ 100 i = 0) ∧ frS ρ 92 15 = -1 ∧ frS ρ 92 19 = 0 ∧ frS ρ 92 20 = -1 ∧ ∀ i, 31 ≤ i → i < 35 → frS ρ 92 i = 0 := by
  unfold frS cm fr0 rowF
  refine ⟨fun b hb => ?_, fun i hi => ?_, fun l hl => ?_, ?_, ?_, fun i hi => ⟨?_, ?_⟩, ?_, ?_, ?_, fun i h1 h2 => ?_⟩
  · funext j
    have h0 : b ≠ 92 := by omega
    have h6 : b ≠ 96 := by omega
    have h7 : b ≠ 99 := by omega
    have h9 : b ≠ 100 := by omega
    simp [z_up, z_row, h0, h6, h7, h9]
  · have a1 : i ≠ 9 := by omega
    have a2 : i ≠ 11 := by omega
    have a3 : i ≠ 15 := by omega
    have a4 : i ≠ 19 := by omega
    have a5 : i ≠ 20 := by omega
    have a6 : i ≠ 31 := by omega
    have a7 : i ≠ 32 := by omega
    have a8 : i ≠ 33 := by omega
    have a9 : i ≠ 34 := by omega
    simp [z_up, z_row, a1, a2, a3, a4, a5, a6, a7, a8, a9]
  · simp [z_up, z_row, hl]
  · simp [z_up, z_row]
  · simp [z_up, z_row]
  · simp [z_up, z_row, hi]
  · simp [z_up, z_row, hi]
  · simp [z_up, z_row]
  · simp [z_up, z_row]
  · simp [z_up, z_row]
  · have : i = 31 ∨ i = 32 ∨ i = 33 ∨ i = 34 := by omega
    rcases this with rfl | rfl | rfl | rfl <;> simp [z_up, z_row]
theorem rch_12 {a : Nat} {q : Int32} : (rch σ a q).2 1 2 = σ 1 2 := by
  unfold rch
  by_cases h : tN (σ 1 2) ≤ a
  · rw [if_pos h]
  · rw [if_neg h]
    by_cases h2 : σ 4 a = -1
    · rw [if_pos h2]; dsimp only; rw [z_up_o _ _ (by omega), z_up_ne _ _ _ (by omega), z_up_ne _ _ _ (by omega)]
    · rw [if_neg h2]
theorem lwS_rows {a : Nat} : (∀ b, b ≠ 4 ∧ b ≠ 5 ∧ b ≠ 1 → (lw σ a).2 b = σ b) ∧ (lw σ a).2 1 2 = σ 1 2 := by
  have key : ∀ o b', (∀ b, b ≠ 4 ∧ b ≠ 5 ∧ b ≠ 1 → (lwB σ a o b').2 b = σ b) ∧ (lwB σ a o b').2 1 2 = σ 1 2 := by
    intro o b'
    unfold lwB
    by_cases h13 : o = 13
    · rw [if_pos h13]; exact ⟨fun b hb => rch_lo hb, rch_12⟩
    · rw [if_neg h13]
      by_cases h14 : o = 14
      · rw [if_pos h14]
        by_cases hz : (rch σ (tN (σ 3 a)) b').1 = 0
        · rw [if_pos hz]; exact ⟨fun b hb => rch_lo hb, rch_12⟩
        · rw [if_neg hz]; exact ⟨fun b hb => by rw [rch_lo hb, rch_lo hb], by rw [rch_12, rch_12]⟩
      · rw [if_neg h14]
        by_cases h15 : o = 15
        · rw [if_pos h15]; exact ⟨fun _ _ => rfl, rfl⟩
        · rw [if_neg h15]; exact ⟨fun b hb => rch_lo hb, rch_12⟩
  unfold lw
  by_cases h : tN (σ 4 a) < tk (tN (σ 2 a)) ∨ 6 < tN (σ 4 a) - tk (tN (σ 2 a)) + gv (tN (σ 2 a))
  · rw [if_pos h]; exact ⟨fun _ _ => rfl, rfl⟩
  · rw [if_neg h]; exact key _ _
theorem sndL_rows : ∀ (m q : Nat) (x : Int32) (σ : Nat → Nat → Int32), (∀ b, b ≠ 4 ∧ b ≠ 5 ∧ b ≠ 1 → (sndL m q x σ).2 b = σ b) ∧ (sndL m q x σ).2 1 2 = σ 1 2 := by
  intro m
  induction m with
  | zero => intro q x σ; exact ⟨fun _ _ => rfl, rfl⟩
  | succ m ih =>
    intro q x σ
    unfold sndL
    by_cases h : x = 0
    · rw [if_pos h]; exact ⟨fun _ _ => rfl, rfl⟩
    · rw [if_neg h]
      by_cases h2 : tN (σ 1 5) ≤ q
      · rw [if_pos h2]; exact ⟨fun _ _ => rfl, rfl⟩
      · rw [if_neg h2]
        have i := ih (q + 1) (lw σ (tN (σ 5 q))).1 (lw σ (tN (σ 5 q))).2
        have l := @lwS_rows σ (tN (σ 5 q))
        exact ⟨fun b hb => by rw [i.1 b hb, l.1 b hb], by rw [i.2, l.2]⟩
theorem snd_rows : (∀ b, b ≠ 4 ∧ b ≠ 5 ∧ b ≠ 1 → (snd σ).2 b = σ b) ∧ (snd σ).2 1 2 = σ 1 2 := by
  unfold snd
  have i := sndL_rows 40 0 (rch (snd0 σ) 0 0).1 (rch (snd0 σ) 0 0).2
  have z : (∀ b, b ≠ 4 ∧ b ≠ 5 ∧ b ≠ 1 → snd0 σ b = σ b) ∧ snd0 σ 1 2 = σ 1 2 := by
    unfold snd0 fillR
    exact ⟨fun b hb => by rw [z_up_ne _ _ _ hb.2.2, z_row_ne hb.1], by rw [z_up_o _ _ (by omega), z_row_ne (by omega)]⟩
  exact ⟨fun b hb => by rw [i.1 b hb, rch_lo hb, z.1 b hb], by rw [i.2, rch_12, z.2]⟩
theorem rlw_ne {n a b : Nat} (hb : b ≠ 95) : (rlw σ n a).2 b = σ b := by
  unfold rlw
  by_cases h : σ 95 a < 0
  · rw [if_pos h]
  · rw [if_neg h]
    by_cases h2 : tN (σ 95 a) < tk (tN (σ 93 a)) ∨ 6 < tN (σ 95 a) - tk (tN (σ 93 a)) + gv (tN (σ 93 a))
    · rw [if_pos h2]
    · rw [if_neg h2]
      generalize nI (tN (σ 95 a) - tk (tN (σ 93 a)) + gv (tN (σ 93 a))) = q
      generalize tN (σ 93 a) = o
      unfold rlB
      by_cases h13 : o = 13
      · rw [if_pos h13]; exact rld_ne hb
      · rw [if_neg h13]
        by_cases h14 : o = 14
        · rw [if_pos h14]
          by_cases hz : (rld σ n (tN (σ 94 a)) q).1 = 0
          · rw [if_pos hz]; exact rld_ne hb
          · rw [if_neg hz, rld_ne hb, rld_ne hb]
        · rw [if_neg h14]
          by_cases h15 : o = 15
          · rw [if_pos h15]
          · rw [if_neg h15]; exact rld_ne hb
theorem rsI_ne {n b : Nat} (hb : b ≠ 95) : ∀ (m k : Nat) (g : Int32) (σ : Nat → Nat → Int32), (rsI n m k g σ).2 b = σ b := by
  intro m
  induction m with
  | zero => intro k g σ; rfl
  | succ m ih =>
    intro k g σ
    unfold rsI
    by_cases h : g = 0
    · rw [if_pos h]
    · rw [if_neg h, ih, rlw_ne hb]
theorem rsO_ne {n b : Nat} (hb : b ≠ 95) : ∀ (m : Nat) (g : Int32) (σ : Nat → Nat → Int32), (rsO n m g σ).2 b = σ b := by
  intro m
  induction m with
  | zero => intro g σ; rfl
  | succ m ih =>
    intro g σ
    unfold rsO
    rw [ih, rsI_ne hb]
theorem rsnd_ne {n b : Nat} (hb : b ≠ 95) : (rsnd σ n).2 b = σ b := by
  unfold rsnd
  rw [rsO_ne hb, rld_ne hb]
  unfold rs0
  rw [rowF_ne _ _ _ hb]
theorem CD.cdE (h : CD σ ρ n) : cdE σ n 2 3 (opc σ) (jmc σ) ∧ cdE ρ n 93 94 (opc σ) (jmc σ) ∧ wfC σ n ∧ wfR ρ n := by
  refine ⟨fun a ha => ?_, fun a ha => ?_, fun a ha => ?_, fun a ha => ?_⟩
  all_goals obtain ⟨o1, o2, o3, o4, o5, o6⟩ := h.2.2.2 a ha
  · exact ⟨o1, o2, o6⟩
  · rw [o3, o4]; exact ⟨o1, o2, o6⟩
  · exact ⟨opc σ a, o1, o2, fun q => ⟨jmc σ a, o6 q⟩⟩
  · refine ⟨opc σ a, o1, by rw [o3]; exact o2, fun q => ⟨jmc σ a, ?_⟩⟩
    rw [o4]; exact o6 q
/-- a program is begun in both -/
theorem begin_rel {x y w : Int32} (h : REL σ ρ n e tc) (hw : w = 0 ∨ w = 1) (hb : ¬ BadC n (opc σ) (jmc σ)) : REL (cbg (snd σ).2 x y w) (rbg (rsnd (z_up ρ 92 0 0) n).2 x y w) n 0 0 := by
  obtain ⟨s1, s2⟩ := @snd_rows σ
  have r1 : ∀ b, b ≠ 95 → b ≠ 92 → (rsnd (z_up ρ 92 0 0) n).2 b = ρ b := fun b h1 h2 => by rw [rsnd_ne h1, z_up_ne _ _ _ h2]
  have r2 : ∀ i, i ≠ 0 → (rsnd (z_up ρ 92 0 0) n).2 92 i = ρ 92 i := fun i hi => by rw [rsnd_ne (by omega), z_up_o _ _ (Or.inr hi)]
  obtain ⟨f1, f2, f3, f4, f5, f6, f7, f8, f9, f10, f11, f12, f13⟩ := @fgP_rows (snd σ).2
  obtain ⟨g1, g2, g3, g4, g5, g6, g7, g8, g9, g10⟩ := @frS_rows (rsnd (z_up ρ 92 0 0) n).2
  have c1 : ∀ b, b ≠ 0 → b ≠ 7 → cbg (snd σ).2 x y w b = fgP (snd σ).2 b := fun b h0 h7 => by unfold cbg; rw [z_up_ne _ _ _ h0, z_up_ne _ _ _ h0, z_up_ne _ _ _ h7, z_up_ne _ _ _ h7]
  have c0 : ∀ i, i ≠ 9 → i ≠ 11 → cbg (snd σ).2 x y w 0 i = fgP (snd σ).2 0 i := fun i h9 h11 => by unfold cbg; rw [z_up_o _ _ (Or.inr h9), z_up_o _ _ (Or.inr h11), z_up_ne _ _ _ (by omega), z_up_ne _ _ _ (by omega)]
  have b1 : ∀ b, b ≠ 92 → b ≠ 96 → rbg (rsnd (z_up ρ 92 0 0) n).2 x y w b = frS (rsnd (z_up ρ 92 0 0) n).2 b := fun b h0 h7 => by unfold rbg; rw [z_up_ne _ _ _ h0, z_up_ne _ _ _ h0, z_up_ne _ _ _ h0, z_up_ne _ _ _ h7, z_up_ne _ _ _ h7]
  have b0 : ∀ i, i ≠ 5 → i ≠ 6 → i ≠ 7 → rbg (rsnd (z_up ρ 92 0 0) n).2 x y w 92 i = frS (rsnd (z_up ρ 92 0 0) n).2 92 i := fun i h5 h6 h7 => by unfold rbg; rw [z_up_o _ _ (Or.inr h5), z_up_o _ _ (Or.inr h6), z_up_o _ _ (Or.inr h7), z_up_ne _ _ _ (by omega), z_up_ne _ _ _ (by omega)]
  have e2 : cbg (snd σ).2 x y w 2 = σ 2 := by rw [c1 2 (by omega) (by omega), f1 2 (by omega), s1 2 (by omega)]
  have e3 : cbg (snd σ).2 x y w 3 = σ 3 := by rw [c1 3 (by omega) (by omega), f1 3 (by omega), s1 3 (by omega)]
  refine fresh_rel (h.1.to ?_ e2 e3 ?_ ?_ ?_) ⟨?_, ?_, ?_⟩ ?_ ?_ (fun l hl => ?_) ?_ ?_ ?_ (fun i hi => ?_) (fun i i1 i2 => ?_) (fun i hi => ?_) (fun _ i hi => ?_) ?_ ?_ ?_ ?_ ?_ ?_ (Or.inr (Or.inr ⟨0, ?_, ?_, ?_, ?_, ?_, Rch.z⟩))
  · rw [c1 1 (by omega) (by omega), f1 1 (by omega), s2]
  · rw [b0 1 (by omega) (by omega) (by omega), g2 1 (by omega), r2 1 (by omega)]
  · rw [b1 93 (by omega) (by omega), g1 93 (by omega), r1 93 (by omega) (by omega)]
  · rw [b1 94 (by omega) (by omega), g1 94 (by omega), r1 94 (by omega) (by omega)]
  · unfold rbg cbg; rw [z_up_s, z_up_s]
  · unfold cbg; rw [z_up_o _ _ (by omega), z_up_s]; exact hw
  · unfold rbg cbg; rw [z_up_o _ _ (by omega), z_up_s, z_up_o _ _ (by omega), z_up_s]
  · rw [c1 6 (by omega) (by omega)]; exact f6
  · rw [b0 9 (by omega) (by omega) (by omega)]; exact g4
  · unfold cbg rbg
    rw [z_up_ne (i := 0) _ _ _ (by omega), z_up_ne (i := 0) _ _ _ (by omega), z_up_row (i := 7), z_up_row (i := 7), z_up_ne (i := 92) _ _ _ (by omega), z_up_ne (i := 92) _ _ _ (by omega), z_up_ne (i := 92) _ _ _ (by omega), z_up_row (i := 96), z_up_row (i := 96), upE, upE, upE, upE, f8 l hl, g3 l hl]
  · rw [c1 9 (by omega) (by omega)]; exact f9
  · rw [c1 9 (by omega) (by omega)]; exact f10
  · rw [b0 11 (by omega) (by omega) (by omega)]; exact g5
  · rw [c1 11 (by omega) (by omega)]; exact f11 i hi
  · rw [b0 i (by omega) (by omega) (by omega)]; exact g10 i i1 i2
  · rw [c1 13 (by omega) (by omega), c1 14 (by omega) (by omega), b1 99 (by omega) (by omega), b1 100 (by omega) (by omega)]
    exact ⟨(f12 i hi).1, (g6 i hi).1, (f12 i hi).2.1, (g6 i hi).2⟩
  · rw [c1 15 (by omega) (by omega)]; exact (f12 i hi).2.2
  · rw [c0 8 (by omega) (by omega)]; exact f3
  · rw [b0 19 (by omega) (by omega) (by omega)]; exact g8
  · rw [c0 12 (by omega) (by omega)]; exact f5
  · rw [b0 20 (by omega) (by omega) (by omega)]; exact g9
  · rw [c1 16 (by omega) (by omega)]; exact f13
  · rw [b0 15 (by omega) (by omega) (by omega)]; exact g7
  · unfold cbg; rw [z_up_s]
  · rw [(cd_eq e2 e3).1, (cd_eq e2 e3).2]; exact hb
  · rw [c0 10 (by omega) (by omega)]; exact f4
  · rw [c1 6 (by omega) (by omega), f7, nI_0]
  · unfold rbg; rw [z_up_o _ _ (by omega), z_up_o _ _ (by omega), z_up_s, nI_0]
/-- the class's soundness test leaves both alike -/
theorem snd_rel (h : REL σ ρ n e tc) : REL (snd σ).2 ρ n e tc := by
  obtain ⟨s1, s2⟩ := @snd_rows σ
  obtain ⟨h1, h2, h3, h4, h5, h6, h7, h8, h9, h10⟩ := h
  have e2 : (snd σ).2 2 = σ 2 := s1 2 (by omega)
  have e3 : (snd σ).2 3 = σ 3 := s1 3 (by omega)
  have e0 : (snd σ).2 0 = σ 0 := s1 0 (by omega)
  refine ⟨h1.to s2 e2 e3 rfl rfl rfl, ?_, ?_, h4.to (s1 9 (by omega)) (s1 10 (by omega)) rfl rfl, ?_, ?_, ?_, ?_, ?_, fun t ht => (h10 t ht).to e2 e3 (fun i hi => s1 _ (by have := @tr_big t i; omega)) rfl rfl (fun b hb => rfl) (fun b j _ _ _ => rfl) (Or.inr ⟨by rw [e0], s1 7 (by omega)⟩)⟩
  · unfold FLG at h2 ⊢; rw [e0]; exact h2
  · unfold FR at h3 ⊢; rw [s1 6 (by omega), s1 7 (by omega), s1 8 (by omega)]; exact h3
  · unfold TAL at h5 ⊢; rw [s1 11 (by omega)]; exact h5
  · unfold PLW PLC at h6 ⊢; rw [e0, s1 13 (by omega), s1 14 (by omega), s1 15 (by omega)]; exact h6
  · unfold TCN at h7 ⊢; rw [e0]; exact h7
  · unfold RCD at h8 ⊢
    rw [s1 16 (by omega), (cd_eq e2 e3).1, (cd_eq e2 e3).2]
    rcases h8 with h8 | ⟨p, a1, a2, a3, a4, a5, g, k, op, Lr, Sr, b1, b2, b3, b4, b5, b6, b7, b8⟩
    · exact Or.inl h8
    · refine Or.inr ⟨p, a1, a2, a3, a4, a5, g, k, op, Lr, Sr, by rw [s1 16 (by omega)]; exact b1, b2, b3.to e2 e3 rfl rfl (fun j hj => ?_), b4.to e3 (fun j hj => by rw [s1 18 (by omega)]), b5.to e2 e3, b6, by rw [s1 7 (by omega)]; exact b7, by rw [s1 8 (by omega)]; exact b8⟩
      rw [s1 17 (by omega), s1 18 (by omega)]
      exact ⟨rfl, rfl, rfl, rfl⟩
  · unfold ATT LIV at h9 ⊢
    rw [e0, s1 16 (by omega), s1 6 (by omega), (cd_eq e2 e3).1, (cd_eq e2 e3).2]
    exact h9
/-- both are cleared -/
theorem clear_rel (h : REL σ ρ n e tc) : REL (ccl σ) (rcl ρ) 0 0 0 := by
  obtain ⟨f1, f2, f3, f4, f5, f6, f7, f8, f9, f10, f11, f12, f13⟩ := @fgP_rows (z_up σ 1 2 0)
  obtain ⟨g1, g2, g3, g4, g5, g6, g7, g8, g9, g10⟩ := @frS_rows (z_up (z_up ρ 92 0 0) 92 1 0)
  have c1 : ∀ b, b ≠ 0 → ccl σ b = fgP (z_up σ 1 2 0) b := fun b h0 => by unfold ccl; rw [z_up_ne _ _ _ h0]
  have c0 : ∀ i, i ≠ 9 → ccl σ 0 i = fgP (z_up σ 1 2 0) 0 i := fun i h9 => by unfold ccl; rw [z_up_o _ _ (Or.inr h9)]
  have b1 : ∀ b, b ≠ 92 → rcl ρ b = frS (z_up (z_up ρ 92 0 0) 92 1 0) b := fun b h0 => by unfold rcl; rw [z_up_ne _ _ _ h0, z_up_ne _ _ _ h0]
  have b0 : ∀ i, i ≠ 5 → i ≠ 7 → rcl ρ 92 i = frS (z_up (z_up ρ 92 0 0) 92 1 0) 92 i := fun i h5 h7 => by unfold rcl; rw [z_up_o _ _ (Or.inr h5), z_up_o _ _ (Or.inr h7)]
  have c09 : ccl σ 0 9 = 0 := by unfold ccl; rw [z_up_s]
  refine fresh_rel ⟨by omega, ?_, ?_, fun a ha => absurd ha (by omega)⟩ ⟨?_, ?_, ?_⟩ ?_ ?_ (fun l hl => ?_) ?_ ?_ ?_ (fun i hi => ?_) (fun i i1 i2 => ?_) (fun i hi => ?_) (fun _ i hi => ?_) ?_ ?_ ?_ ?_ ?_ ?_ (Or.inl ⟨c09, ?_, rfl, ?_⟩)
  · rw [c1 1 (by omega), f1 1 (by omega), z_up_s, nI_0]
  · rw [b0 1 (by omega) (by omega), g2 1 (by omega), z_up_s, nI_0]
  · rw [c09]; unfold rcl; rw [z_up_s]
  · rw [c0 11 (by omega), f2 11 (by omega) (by omega) (by omega), z_up_ne _ _ _ (by omega)]; exact h.2.1.2.1
  · rw [c0 11 (by omega), f2 11 (by omega) (by omega) (by omega), z_up_ne _ _ _ (by omega), b0 6 (by omega) (by omega), g2 6 (by omega), z_up_o _ _ (by omega), z_up_o _ _ (by omega)]; exact h.2.1.2.2
  · rw [c1 6 (by omega)]; exact f6
  · rw [b0 9 (by omega) (by omega)]; exact g4
  · rw [c1 7 (by omega), b1 96 (by omega), f8 l hl, g3 l hl]
  · rw [c1 9 (by omega)]; exact f9
  · rw [c1 9 (by omega)]; exact f10
  · rw [b0 11 (by omega) (by omega)]; exact g5
  · rw [c1 11 (by omega)]; exact f11 i hi
  · rw [b0 i (by omega) (by omega)]; exact g10 i i1 i2
  · rw [c1 13 (by omega), c1 14 (by omega), b1 99 (by omega), b1 100 (by omega)]
    exact ⟨(f12 i hi).1, (g6 i hi).1, (f12 i hi).2.1, (g6 i hi).2⟩
  · rw [c1 15 (by omega)]; exact (f12 i hi).2.2
  · rw [c0 8 (by omega)]; exact f3
  · rw [b0 19 (by omega) (by omega)]; exact g8
  · rw [c0 12 (by omega)]; exact f5
  · rw [b0 20 (by omega) (by omega)]; exact g9
  · rw [c1 16 (by omega)]; exact f13
  · rw [b0 15 (by omega) (by omega)]; exact g7
  · unfold rcl; rw [z_up_o _ _ (by omega), z_up_s]
  · rw [c1 16 (by omega)]; exact f13
/-- both as they are made -/
theorem start_rel : REL z_s0 z_s0 0 0 0 := by
  refine fresh_rel ⟨by omega, rfl, rfl, fun a ha => absurd ha (by omega)⟩ ⟨rfl, Or.inl rfl, rfl⟩ rfl rfl (fun l hl => ?_) rfl rfl rfl (fun i hi => ?_) (fun i i1 i2 => ?_) (fun i hi => ?_) (fun w => absurd (show (0 : Int32) = 1 from w) (by decide)) rfl rfl rfl rfl rfl rfl (Or.inl ⟨rfl, rfl, rfl, rfl⟩)
  · simp [z_s0, z_up]
  · simp [z_s0, z_up]
  · have a1 : i ≠ 7 := by omega
    have a2 : i ≠ 15 := by omega
    have a3 : i ≠ 20 := by omega
    simp [z_s0, z_up, a1, a2, a3]
  · exact ⟨by simp [z_s0, z_up], by simp [z_s0, z_up], by simp [z_s0, z_up], by simp [z_s0, z_up]⟩
end
