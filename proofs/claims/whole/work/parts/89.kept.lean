/-! PART 89: a trace is kept -/
theorem nI_sub2 (a b : Nat) : nI (a + b) - nI b = nI a := by rw [← nI_add2]; exact Int32.add_sub_cancel _ _
section
variable {σ ρ : Nat → Nat → Int32} {n e tc a p g : Nat} {k op : Nat → Nat} {Lr Sr : Nat → Nat → Int32}
theorem mkZ_lo (h : REC σ ρ g k op) {b : Nat} (hb : ¬ ((19 ≤ b ∧ b ≤ 26) ∨ (tr tc ≤ b ∧ b ≤ tr tc + 15))) : mkZ σ tc g b = σ b := by
  rw [(mkZ_soi (t := tc) h).2.2.2.2.2.1 b (by omega) (by omega) (by omega) (by omega), s3_row (by omega) (by omega) (by omega)]
  exact (mk_all (t := tc) h g (Nat.le_refl _)).2.2.2 b (by omega)
theorem rkZ_lo (h : REC σ ρ g k op) (ht : tc < 4) {b : Nat} (hb : ¬ (b = 92 ∨ b = 100 ∨ (103 ≤ b ∧ b ≤ 122))) : rkZ ρ tc g (nV (cF σ tc g) (tr tc)) p b = ρ b := by
  unfold rkZ
  rw [mZ_row (by omega), (rkZ_kpp h ht).2.2.2.2.2.1 b (by omega), (r3_rel h ht).2.2.2.1 b (by omega) (by omega) (by omega)]
  exact (mk_all (t := tc) h g (Nat.le_refl _)).2.1 b (by omega)
theorem rkZ_92 (h : REC σ ρ g k op) (ht : tc < 4) {i : Nat} (h1 : i ≠ 35) (h2 : i ≠ 44) (h3 : i ≠ 15) (h4 : i ≠ 19) : rkZ ρ tc g (nV (cF σ tc g) (tr tc)) p 92 i = ρ 92 i := by
  unfold rkZ mZ
  rw [z_up_o _ _ (Or.inr h3), z_up_o _ _ (Or.inr h4), z_up_ne _ _ _ (by omega), z_up_ne _ _ _ (by omega), z_up_ne _ _ _ (by omega), (rkZ_kpp h ht).2.2.2.2.2.1 92 (by omega), (r3_rel h ht).2.2.2.1 92 (by omega) (by omega) (by omega)]
  exact (mk_all (t := tc) h g (Nat.le_refl _)).2.2.1 i h1 h2
theorem rkZ_rows (h : REC σ ρ g k op) (ht : tc < 4) : rkZ ρ tc g (nV (cF σ tc g) (tr tc)) p 92 15 = -1 ∧ rkZ ρ tc g (nV (cF σ tc g) (tr tc)) p 92 19 = nI (tc + 1) ∧ rkZ ρ tc g (nV (cF σ tc g) (tr tc)) p 100 = va_up (ρ 100) p 1 ∧ rkZ ρ tc g (nV (cF σ tc g) (tr tc)) p 103 = va_up (ρ 103) tc (nI p) ∧ (∀ x, x ≠ tc → rkZ ρ tc g (nV (cF σ tc g) (tr tc)) p 104 x = ρ 104 x) ∧ (∀ b x, 108 ≤ b → b ≤ 112 → x ≠ tc → rkZ ρ tc g (nV (cF σ tc g) (tr tc)) p b x = ρ b x) ∧ (∀ b x, 105 ≤ b → b ≤ 107 → ¬ (30 * tc ≤ x ∧ x < 30 * tc + g) → rkZ ρ tc g (nV (cF σ tc g) (tr tc)) p b x = ρ b x) := by
  have lo : ∀ b, ¬ (b = 92 ∨ (105 ≤ b ∧ b ≤ 122)) → kpF tc g 0 (kp0 (r3F ρ tc g (nV (cF σ tc g) (tr tc))) tc) b = ρ b := by
    intro b hb
    rw [(rkZ_kpp h ht).2.2.2.2.2.1 b (by omega), (r3_rel h ht).2.2.2.1 b (by omega) (by omega) (by omega)]
    exact (mk_all (t := tc) h g (Nat.le_refl _)).2.1 b (by omega)
  have r3lo : ∀ b, ¬ (b = 92 ∨ (112 ≤ b ∧ b ≤ 122)) → r3F ρ tc g (nV (cF σ tc g) (tr tc)) b = ρ b := by
    intro b hb
    rw [(r3_rel h ht).2.2.2.1 b (by omega) (by omega) (by omega)]
    exact (mk_all (t := tc) h g (Nat.le_refl _)).2.1 b (by omega)
  obtain ⟨_, _, _, _, _, k6, k7, k8⟩ := rkZ_kpp h ht
  refine ⟨?_, ?_, ?_, ?_, fun x hx => ?_, fun b x h1 h2 hx => ?_, fun b x h1 h2 hx => ?_⟩
  · unfold rkZ mZ; rw [z_up_s]
  · unfold rkZ mZ; rw [z_up_o _ _ (by omega), z_up_s]
  · unfold rkZ mZ; rw [z_up_ne _ _ _ (by omega), z_up_ne _ _ _ (by omega), z_up_row, z_up_ne _ _ _ (by omega), z_up_ne _ _ _ (by omega), lo 100 (by omega)]
  · unfold rkZ mZ; rw [z_up_ne _ _ _ (by omega), z_up_ne _ _ _ (by omega), z_up_ne _ _ _ (by omega), z_up_ne _ _ _ (by omega), z_up_row, lo 103 (by omega)]
  · unfold rkZ mZ; rw [z_up_ne _ _ _ (by omega), z_up_ne _ _ _ (by omega), z_up_ne _ _ _ (by omega), z_up_o _ _ (Or.inr hx), z_up_ne _ _ _ (by omega), lo 104 (by omega)]
  · unfold rkZ
    rw [mZ_row (by omega)]
    by_cases hb : b = 112
    · subst hb
      rw [k6 112 (by omega), (r3_rel h ht).2.2.2.2 x hx, (mk_all (t := tc) h g (Nat.le_refl _)).2.1 112 (by omega)]
    · rw [k7 b x h1 (by omega) hx, r3lo b (by omega)]
  · unfold rkZ
    rw [mZ_row (by omega), k8 b x h1 h2 hx, r3lo b (by omega)]
theorem tof_up {x : Int32} {ρ' : Nat → Nat → Int32} : ∀ tc', tc' ≤ tc → ρ' 103 = va_up (ρ 103) tc (nI p) → tofF ρ' x tc' = tofF ρ x tc' := by
  intro tc'
  induction tc' with
  | zero => intro _ _; rfl
  | succ tc' ih =>
    intro h1 h2
    have e : ρ' 103 tc' = ρ 103 tc' := by rw [h2, upE, if_neg (by omega)]
    unfold tofF
    rw [ih (by omega) h2, e]
theorem keep_rel (h : RLL σ ρ n e tc a) (hp : p < n) (h16 : σ 16 2 = nI p) (hrp : Rch n (opc σ) (jmc σ) p 0) (ht4 : tc < 4) (hg1 : 1 ≤ g) (q2 : REC σ ρ g k op) (q3 : RUN σ g k op Lr Sr) (q4 : RK σ n g k op) (q5 : dpt op g = 0) : REL (ktS (mkZ σ tc g) tc p) (rkZ ρ tc g (nV (cF σ tc g) (tr tc)) p) n e (tc + 1) := by
  have hT := tr_lo tc
  obtain ⟨h1, h2, h3, h4, h5, h6, h7, h8, h9⟩ := h
  have h40 := h1.1
  have zl : ∀ b, ¬ ((19 ≤ b ∧ b ≤ 26) ∨ (tr tc ≤ b ∧ b ≤ tr tc + 15)) → mkZ σ tc g b = σ b := fun b hb => mkZ_lo q2 hb
  have kl : ∀ b, b ≠ 0 → b ≠ 14 → b ≠ 15 → b ≠ 16 → ktS (mkZ σ tc g) tc p b = mkZ σ tc g b := fun b b0 b1 b2 b3 => by unfold ktS; rw [z_up_ne _ _ _ b3, z_up_ne _ _ _ b0, z_up_ne _ _ _ b2, z_up_ne _ _ _ b1]
  have kz : ∀ b, ¬ (b = 0 ∨ (14 ≤ b ∧ b ≤ 16) ∨ (19 ≤ b ∧ b ≤ 26) ∨ (tr tc ≤ b ∧ b ≤ tr tc + 15)) → ktS (mkZ σ tc g) tc p b = σ b := fun b hb => by rw [kl b (by omega) (by omega) (by omega) (by omega), zl b (by omega)]
  have k0 : ∀ i, i ≠ 8 → ktS (mkZ σ tc g) tc p 0 i = σ 0 i := fun i hi => by unfold ktS; rw [z_up_ne _ _ _ (by omega), z_up_o _ _ (Or.inr hi), z_up_ne _ _ _ (by omega), z_up_ne _ _ _ (by omega), zl 0 (by omega)]
  have k08 : ktS (mkZ σ tc g) tc p 0 8 = nI (tc + 1) := by unfold ktS; rw [z_up_ne _ _ _ (by omega), z_up_s]
  have k14 : ktS (mkZ σ tc g) tc p 14 = va_up (σ 14) p 1 := by unfold ktS; rw [z_up_ne _ _ _ (by omega), z_up_ne _ _ _ (by omega), z_up_ne _ _ _ (by omega), z_up_row, zl 14 (by omega)]
  have k15 : ktS (mkZ σ tc g) tc p 15 = va_up (σ 15) p (nI tc) := by unfold ktS; rw [z_up_ne _ _ _ (by omega), z_up_ne _ _ _ (by omega), z_up_row, z_up_ne _ _ _ (by omega), zl 15 (by omega)]
  have k16 : ktS (mkZ σ tc g) tc p 16 2 = -1 := by unfold ktS; rw [z_up_s]
  have kT : ∀ i, i ≤ 15 → ktS (mkZ σ tc g) tc p (tr tc + i) = mkZ σ tc g (tr tc + i) := fun i hi => kl _ (by omega) (by omega) (by omega) (by omega)
  have e2 : ktS (mkZ σ tc g) tc p 2 = σ 2 := kz 2 (by omega)
  have e3 : ktS (mkZ σ tc g) tc p 3 = σ 3 := kz 3 (by omega)
  have rl : ∀ b, ¬ (b = 92 ∨ b = 100 ∨ (103 ≤ b ∧ b ≤ 122)) → rkZ ρ tc g (nV (cF σ tc g) (tr tc)) p b = ρ b := fun b hb => rkZ_lo q2 ht4 hb
  have r92 : ∀ i, i ≠ 35 → i ≠ 44 → i ≠ 15 → i ≠ 19 → rkZ ρ tc g (nV (cF σ tc g) (tr tc)) p 92 i = ρ 92 i := fun i a1 a2 a3 a4 => rkZ_92 q2 ht4 a1 a2 a3 a4
  obtain ⟨w15, w19, w100, w103, w104, w108, w105⟩ := rkZ_rows (p := p) q2 ht4
  have l12 : ¬ σ 0 12 = nI tc := by
    obtain ⟨t4, _, _, _, tw⟩ := h7
    rcases tw with tw | ⟨t, t1, t2⟩
    · rw [tw]; exact fun q => nI_m1 (n := tc) (by omega) q.symm
    · rw [t2]; exact fun q => by have := nI_inj q (by omega) (by omega); omega
  refine ⟨h1.to (by rw [kz 1 (by omega)]) e2 e3 (r92 1 (by omega) (by omega) (by omega) (by omega)) (rl 93 (by omega)) (rl 94 (by omega)), ?_, ?_, h4.to (kz 9 (by omega)) (kz 10 (by omega)) (r92 11 (by omega) (by omega) (by omega) (by omega)) (rl 98 (by omega)), ?_, PLC.w ?_, ?_, Or.inl ⟨k16, w15⟩, Or.inr (Or.inr ⟨a, ?_⟩), fun t ht => ?_⟩
  · unfold FLG at h2 ⊢; rw [k0 9 (by omega), k0 11 (by omega), r92 5 (by omega) (by omega) (by omega) (by omega), r92 6 (by omega) (by omega) (by omega) (by omega)]; exact h2
  · unfold FR at h3 ⊢; rw [kz 6 (by omega), kz 7 (by omega), kz 8 (by omega), r92 9 (by omega) (by omega) (by omega) (by omega), rl 96 (by omega), rl 97 (by omega)]; exact h3
  · unfold TAL at h5 ⊢; rw [kz 11 (by omega), r92 31 (by omega) (by omega) (by omega) (by omega), r92 32 (by omega) (by omega) (by omega) (by omega), r92 33 (by omega) (by omega) (by omega) (by omega), r92 34 (by omega) (by omega) (by omega) (by omega)]; exact h5
  · intro i hi
    obtain ⟨z1, z2, z3⟩ := h6 i hi
    refine ⟨?_, ?_, ?_⟩
    · rw [kz 13 (by omega), rl 99 (by omega)]; exact z1
    · rw [k14, w100, upE, upE, z2]
    · rw [k15, upE]
      unfold tofF
      rw [w103, upE, if_pos rfl, tof_up tc (Nat.le_refl _) w103]
      by_cases hip : i = p
      · rw [if_pos hip, if_pos (by rw [hip])]
      · rw [if_neg hip, if_neg (fun q => hip (nI_inj q.symm (by omega) (by omega)))]; exact z3
  · unfold TCN at h7 ⊢
    rw [k08, k0 12 (by omega), w19, r92 20 (by omega) (by omega) (by omega) (by omega)]
    exact ⟨by omega, rfl, rfl, h7.2.2.2.1, h7.2.2.2.2.elim Or.inl (fun ⟨t, t1, t2⟩ => Or.inr ⟨t, by omega, t2⟩)⟩
  · unfold LIV at h8 ⊢; rw [k0 9 (by omega), k0 10 (by omega), (cd_eq e2 e3).1, (cd_eq e2 e3).2, kz 6 (by omega), r92 7 (by omega) (by omega) (by omega) (by omega)]; exact h8
  · by_cases htc : t = tc
    · subst htc
      have hS := stat_ok (p := p) q2 hg1 ht4 q3
      obtain ⟨y1, y2, y3, y4, y5, y6, y7⟩ := mkZ_soi (t := t) q2
      obtain ⟨u1, u2, u3, u4, u5, u6, u7, u8⟩ := rkZ_kpp q2 ht4
      have zr : ∀ i, 1 ≤ i → i ≤ 12 → mkZ σ t g (tr t + i) = s3F σ t g (tr t + i) := fun i i1 i2 => y6 _ (by omega) (by omega) (by omega) (by omega)
      have cr : ∀ i, 1 ≤ i → i ≤ 11 → s3F σ t g (tr t + i) = cF σ t g (tr t + i) := fun i i1 i2 => s3_row (by omega) (by omega) (by omega)
      have hM := (mk_all (t := t) q2 g (Nat.le_refl _)).1
      have hsum := cb_sum (s0 := s3F σ t g) (cV (cF σ t g)) (k3 q2 (Nat.le_refl g))
      have hgc := gcnt (t := t) q2 g (Nat.le_refl g)
      have e6 : ktS (mkZ σ t g) t p (tr t + 6) 5 = nI (cb (gBo (s3F σ t g)) (cV (cF σ t g))) := by
        rw [kT 6 (by omega), zr 6 (by omega) (by omega), cr 6 (by omega) (by omega), hgc]
        exact hM.2.2.2.2.2.2.1
      have eT0 : ktS (mkZ σ t g) t p (tr t) = mkZ σ t g (tr t) := kT 0 (by omega)
      refine ⟨g, _, _, k, op, _, _, _, _, _, _, hS.to (fun i i1 _ => kT i i1) rfl rfl rfl rfl (fun _ _ _ _ _ => rfl), ⟨q4.to e2 e3, q5⟩, ⟨p, hp, ?_, ?_, ?_⟩, ⟨?_, ?_, ?_, ?_, ?_⟩, fun v hv hk => ?_, fun q => absurd (by rw [← k0 12 (by omega)]; exact q) l12⟩
      · rw [eT0, y7 3 (by omega) (by omega) (by omega), s3_start q2]; exact h16
      · rw [w103, upE, if_pos rfl]
      · rw [(cd_eq e2 e3).1, (cd_eq e2 e3).2]; exact hrp
      · rw [eT0, y2]; unfold rkZ; rw [mZ_row (by omega), u1]
      · rw [eT0, y1, e6, y3]; unfold rkZ; rw [mZ_row (by omega), u2, hsum]
        show nI (cb (pBo (s3F σ t g)) (cV (cF σ t g)) + cb (gBo (s3F σ t g)) (cV (cF σ t g)) + cb (oBo (s3F σ t g)) (cV (cF σ t g))) - nI (cb (gBo (s3F σ t g)) (cV (cF σ t g))) - nI (cb (oBo (s3F σ t g)) (cV (cF σ t g))) = nI (cb (pBo (s3F σ t g)) (cV (cF σ t g)))
        rw [show cb (pBo (s3F σ t g)) (cV (cF σ t g)) + cb (gBo (s3F σ t g)) (cV (cF σ t g)) + cb (oBo (s3F σ t g)) (cV (cF σ t g)) = cb (pBo (s3F σ t g)) (cV (cF σ t g)) + cb (oBo (s3F σ t g)) (cV (cF σ t g)) + cb (gBo (s3F σ t g)) (cV (cF σ t g)) by omega, nI_sub2, nI_sub2]
      · rw [e6]; unfold rkZ; rw [mZ_row (by omega), u3]
      · rw [eT0, y3]; unfold rkZ; rw [mZ_row (by omega), u4]
      · rw [cst_st, kT 12 (by omega), zr 12 (by omega) (by omega)]; unfold rkZ; rw [mZ_row (by omega), u6 112 (by omega), (r3_rel q2 ht4).2.2.1]
      · rw [kT 2 (by omega), zr 2 (by omega) (by omega), cr 2 (by omega) (by omega)] at hk
        rw [kT 5 (by omega), zr 5 (by omega) (by omega), cr 5 (by omega) (by omega), kT 3 (by omega), zr 3 (by omega) (by omega), cr 3 (by omega) (by omega)]
        rcases hM.1.2.2.2 v hv with q | q | ⟨_, o, x, y, o3, o8, _, _, q, _⟩
        · exact absurd (hk.symm.trans q.2.1) (by decide)
        · exact q.2.2.2.2.2.2.2
        · exact absurd (q.symm.trans hk) (op_ne o3 o8).1
    · have htl : t < tc := by omega
      have dis : ∀ i, i ≤ 15 → ¬ (tr tc ≤ tr t + i ∧ tr t + i ≤ tr tc + 15) := fun i hi => by unfold tr; omega
      refine (h9 t htl).to e2 e3 (fun i hi => kz _ (by have := @tr_big t i; have := dis i hi; omega)) (rl 93 (by omega)) (rl 94 (by omega)) (fun b hb => ?_) (fun b j b1 b2 hj => w105 b _ b1 b2 (by omega)) (Or.inr ⟨k0 12 (by omega), kz 7 (by omega)⟩)
      rcases hb with hb | hb
      · by_cases q : b = 103
        · rw [q, w103, upE, if_neg htc]
        · rw [show b = 104 by omega]; exact w104 t htc
      · exact w108 b t hb.1 hb.2 htc
end
