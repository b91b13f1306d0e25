/-! PART 85: a made trace is well -/
/-- the recorded instructions, as they were done: locals Lr, stack Sr -/
def RUN (σ : Nat → Nat → Int32) (len : Nat) (k op : Nat → Nat) (Lr Sr : Nat → Nat → Int32) : Prop :=
  ∀ j, j < len → stp (op j) (tN (σ 3 (k j))) (wv (op j) (σ 3 (k j)) (Sr j) (dpt op j)) (Lr j) (Sr j) (dpt op j) (Lr (j + 1)) (Sr (j + 1)) (dpt op (j + 1)) ∧ (op j = 14 → σ 18 j = b2i (¬ Sr j (dpt op j - 1) = 0))
section
variable {σ ρ : Nat → Nat → Int32} {t len p : Nat} {k op : Nat → Nat} {Lr Sr : Nat → Nat → Int32}
theorem dpt_6 (h : REC σ ρ len k op) : ∀ j, j ≤ len → dpt op j ≤ 6 := by
  intro i hi
  cases i with
  | zero => exact Nat.zero_le _
  | succ i => exact (h.2 i (by omega)).2.2.2.2.2.2.2.2.2.2.2
theorem wok (h : REC σ ρ len k op) {j : Nat} (hj : j < len) : ∃ w, WOK (s3F σ t len) ρ (tr t) k op (fun j => cF σ t j 22) (fun j => nV (cF σ t j) (tr t)) j w ∧ stp (op j) (tN (ρ 94 (k j))) w (cF σ t j 21) (cF σ t j 22) (dpt op j) (cF σ t (j + 1) 21) (cF σ t (j + 1) 22) (dpt op (j + 1)) := by
  obtain ⟨h1, h2, w, ⟨v0, v3, v12, v14, vm⟩, h4⟩ := mk_one (t := t) h hj
  have e94 : ρ 94 (k j) = σ 3 (k j) := ((h.2 j hj).2.2.2.2.2.2.2.2.1).symm
  refine ⟨w, ⟨fun q => ?_, fun q => ?_⟩, by rw [e94]; exact h4⟩
  · obtain ⟨v, a1, a2, a3, a4, _⟩ := v0 q
    refine ⟨v, a1, a2, ?_, ?_⟩
    · rw [s3_val h (j := j + 1) hj (by omega) (by omega) a1]; exact a3
    · rw [s3_val h (j := j + 1) hj (by omega) (by omega) a1, e94]; exact a4
  · obtain ⟨a, b, v, ha, hb, sa, sb, hv, hw, hg, q⟩ := v3 q
    refine ⟨a, b, v, ha, hb, hv, sa, sb, hw, ?_⟩
    rw [s3_val h (j := j + 1) hj (by omega) (by omega) hv, s3_val h (j := j + 1) hj (by omega) (by omega) hv, s3_val h (j := j + 1) hj (by omega) (by omega) hv, s3_val h (j := j) (by omega) (by omega) (by omega) ha, s3_val h (j := j) (by omega) (by omega) (by omega) hb, s3_val h (j := j) (by omega) (by omega) (by omega) ha, s3_val h (j := j) (by omega) (by omega) (by omega) hb]
    rcases q with ⟨q1, q2, q3, q4, _⟩ | ⟨q1, q2, q3, _⟩
    · exact Or.inl ⟨q1, q2, q3, q4⟩
    · exact Or.inr ⟨q1, q2, q3⟩
theorem fr_ok (h : REC σ ρ len k op) {j : Nat} (hj : j ≤ len) : (∀ l, l < 6 → ∃ q, q < nV (cF σ t j) (tr t) ∧ cF σ t j 21 l = nI q) ∧ (∀ s, s < dpt op j → ∃ q, q < nV (cF σ t j) (tr t) ∧ cF σ t j 22 s = nI q) ∧ nV (cF σ t j) (tr t) ≤ nV (cF σ t len) (tr t) := by
  have a := (mk_all (t := t) h j hj).1.2.2.1
  exact ⟨fun l hl => (a.2.2.2.1 l hl).2, fun s hs => (a.2.2.2.2 s hs).2, (cF_mono (t := t) h len hj (Nat.le_refl _)).1⟩
/-- the values were worth the numbers that were there -/
theorem run_val (h : REC σ ρ len k op) (hr : RUN σ len k op Lr Sr) : ∀ j, j ≤ len → (∀ l, l < 6 → Lr j l = val (s3F σ t len) (tr t) (Lr 0) (tN (cF σ t j 21 l))) ∧ ∀ s, s < dpt op j → Sr j s = val (s3F σ t len) (tr t) (Lr 0) (tN (cF σ t j 22 s)) := by
  obtain ⟨n6, n36, _⟩ := n36 (t := t) h
  have kp := s3_kp (t := t) h
  intro j
  induction j with
  | zero =>
    intro _
    refine ⟨fun l hl => ?_, fun s hs => absurd hs (Nat.not_lt_zero _)⟩
    have : cF σ t 0 21 l = nI l := (@mk0_cells σ t).2.2.1 l hl
    rw [this, tN_nI (by omega), val_loc kp (by omega) hl]
  | succ j ih =>
    intro hj
    obtain ⟨i1, i2⟩ := ih (by omega)
    obtain ⟨w, hw, hs⟩ := wok (t := t) h (show j < len by omega)
    have e94 : ρ 94 (k j) = σ 3 (k j) := ((h.2 j (by omega)).2.2.2.2.2.2.2.2.1).symm
    obtain ⟨r1, r2, r3, r4, r5, r6, r7, r8, r9, r10, r11, r12⟩ := h.2 j (by omega)
    rw [e94] at hs
    have hn := (fr_ok (t := t) h (show j + 1 ≤ len by omega)).2.2
    have hn0 := (fr_ok (t := t) h (show j ≤ len by omega)).2.2
    have := stp_rel (f := fun z => val (s3F σ t len) (tr t) (Lr 0) (tN z)) (hr j (by omega)).1 hs r11 (fun q => (r10 (Or.inl q)).1) i1 i2 (fun q => by
      unfold wv
      rcases q with q | q
      · obtain ⟨v, h1, h2, h3, h4⟩ := hw.1 q
        have h1' : v < nV (cF σ t (j + 1)) (tr t) := h1
        rw [if_pos q, h2, tN_nI (by omega), val_num h3, h4, e94]
      · obtain ⟨a, b, v, ha, hb, hv, h1, h2, h3, h4⟩ := hw.2 q
        have ha' : a < nV (cF σ t j) (tr t) := ha
        have hb' : b < nV (cF σ t j) (tr t) := hb
        have hv' : v < nV (cF σ t (j + 1)) (tr t) := hv
        have h1' : cF σ t j 22 (dpt op j - 2) = nI a := h1
        have h2' : cF σ t j 22 (dpt op j - 1) = nI b := h2
        have tk2 := (tkgv_op q.1 q.2).1
        rw [if_neg (by omega), i2 _ (by omega), i2 _ (by omega), h1', h2', h3, tN_nI (n := a) (by omega), tN_nI (n := b) (by omega), tN_nI (n := v) (by omega)]
        rcases h4 with ⟨g1, g2, g3, g4⟩ | ⟨g1, g2, g3⟩
        · rw [val_num g1, val_num g2, val_num g3, g4]
        · rw [val_op n36 kp (v := v) (a := a) (b := b) (by omega) q.1 q.2 (by omega) (by omega) g1 g2 g3]) (by omega)
    exact ⟨this.2.1, this.2.2⟩
theorem mkZ_soi (h : REC σ ρ len k op) : SOI (s3F σ t len) (tr t) (cV (cF σ t len)) (mkZ σ t len) := by
  have hT := tr_lo t
  have hc : cV (cF σ t len) ≤ 30 := Nat.le_trans (mk_all (t := t) h len (Nat.le_refl _)).1.2.2.2.2.1.2.1 h.1
  have rT : s3F σ t len (tr t) = mk0 σ t (tr t) := by
    rw [s3_row (by omega) (by omega) (by omega)]
    exact (cF_mono (t := t) h (j := 0) len (Nat.zero_le _) (Nat.le_refl _)).2.2.2.2.2.2.2.2 (tr t) (by omega)
  obtain ⟨_, _, _, _, _, _, z4, z9, z5⟩ := @mk0_cells σ t
  have := soS_ok (s0 := s3F σ t len) hT (cV (cF σ t len)) 0 (s3F σ t len) (by omega) (SOI_0 (by rw [rT]; exact z9) (by rw [rT]; exact z4) (by rw [rT]; exact z5))
  rw [Nat.zero_add] at this
  exact this
theorem s3_start (h : REC σ ρ len k op) : s3F σ t len (tr t) 3 = σ 16 2 := by
  have hT := tr_lo t
  have rT : s3F σ t len (tr t) = mk0 σ t (tr t) := by
    rw [s3_row (by omega) (by omega) (by omega)]
    exact (cF_mono (t := t) h (j := 0) len (Nat.zero_le _) (Nat.le_refl _)).2.2.2.2.2.2.2.2 (tr t) (by omega)
  rw [rT]
  exact (@mk0_cells σ t).2.2.2.2.2.1
/-- the reference's end -/
def rkZ (ρ : Nat → Nat → Int32) (t len n p : Nat) : Nat → Nat → Int32 := mZ (kpF t len 0 (kp0 (r3F ρ t len n) t)) t p len
theorem rkZ_kpp (h : REC σ ρ len k op) (ht : t < 4) : KPP (s3F σ t len) (r3F ρ t len (nV (cF σ t len) (tr t))) t (fun j => cV (cF σ t j)) len (kpF t len 0 (kp0 (r3F ρ t len (nV (cF σ t len) (tr t))) t)) := by
  have n36 := (n36 (t := t) h).2.1
  obtain ⟨q1, q2, _⟩ := r3_rel h ht
  exact kpF_ok ht (by omega) q1 q2 (fun j hj => lnk h ht hj) (fun j hj => cb_sum _ (k3 h hj)) h.1 len 0 _ (by omega) (KPP_0 c_zero.1)
theorem mZ_row {b n : Nat} (h : b ≠ 92 ∧ b ≠ 100 ∧ b ≠ 103 ∧ b ≠ 104) : mZ ρ t p n b = ρ b := by
  unfold mZ
  rw [z_up_ne _ _ _ h.1, z_up_ne _ _ _ h.1, z_up_ne _ _ _ h.2.1, z_up_ne _ _ _ h.2.2.2, z_up_ne _ _ _ h.2.2.1]
theorem stat_ok (h : REC σ ρ len k op) (hl : 1 ≤ len) (ht : t < 4) (hr : RUN σ len k op Lr Sr) :
    STAT (mkZ σ t len) (rkZ ρ t len (nV (cF σ t len) (tr t)) p) t len (nV (cF σ t len) (tr t)) (cb (hBo (s3F σ t len)) (cV (cF σ t len))) k op (fun j => cF σ t j 21) (fun j => cF σ t j 22) (fun j => nV (cF σ t j) (tr t)) (fun j => cb (bBo (s3F σ t len)) (cV (cF σ t j))) (fun v => ¬ s3F σ t len 25 v = 0) (fun v => ¬ s3F σ t len 26 v = 0) := by
  have hT := tr_lo t
  obtain ⟨n6, n36, _⟩ := n36 (t := t) h
  have kp := s3_kp (t := t) h
  have hc30 : cV (cF σ t len) ≤ 30 := Nat.le_trans (mk_all (t := t) h len (Nat.le_refl _)).1.2.2.2.2.1.2.1 h.1
  obtain ⟨z1, z2, z3, z4, z5, z6, z7⟩ := mkZ_soi (t := t) h
  obtain ⟨k1, k2, k3', k4, k5, k6, k7, k8⟩ := rkZ_kpp h ht
  have zr : ∀ i, 1 ≤ i → i ≤ 12 → mkZ σ t len (tr t + i) = s3F σ t len (tr t + i) := fun i h1 h2 => z6 _ (by omega) (by omega) (by omega) (by omega)
  have rr : ∀ b, b ≠ 92 ∧ b ≠ 100 ∧ b ≠ 103 ∧ b ≠ 104 → rkZ ρ t len (nV (cF σ t len) (tr t)) p b = kpF t len 0 (kp0 (r3F ρ t len (nV (cF σ t len) (tr t))) t) b := fun b hb => mZ_row hb
  have rlo : ∀ b, (b ≠ 92 ∧ b ≠ 100 ∧ b ≠ 103 ∧ b ≠ 104) → ¬ (105 ≤ b ∧ b ≤ 122) → rkZ ρ t len (nV (cF σ t len) (tr t)) p b = ρ b := by
    intro b h1 h2
    rw [rr b h1, k6 b (by omega), (r3_rel h ht).2.2.2.1 b (by omega) (by omega) (by omega)]
    exact (mk_all (t := t) h len (Nat.le_refl _)).2.1 b (by omega)
  have r3lo : ∀ b, b = 101 ∨ b = 102 → r3F ρ t len (nV (cF σ t len) (tr t)) b = ρ b := by
    intro b hb
    rw [(r3_rel h ht).2.2.2.1 b (by omega) (by omega) (by omega)]
    exact (mk_all (t := t) h len (Nat.le_refl _)).2.1 b (by omega)
  have e93 : rkZ ρ t len (nV (cF σ t len) (tr t)) p 93 = ρ 93 := rlo 93 (by omega) (by omega)
  have e94 : rkZ ρ t len (nV (cF σ t len) (tr t)) p 94 = ρ 94 := rlo 94 (by omega) (by omega)
  have e106 : ∀ j, j < len → rkZ ρ t len (nV (cF σ t len) (tr t)) p 106 (30 * t + j) = σ 18 j := by
    intro j hj
    rw [rr 106 (by omega), (k5 j hj).2.1, r3lo 102 (by omega)]
    exact (h.2 j hj).2.2.2.2.1
  have e2 := zr 2 (by omega) (by omega)
  have e3 := zr 3 (by omega) (by omega)
  have e4 := zr 4 (by omega) (by omega)
  -- in the body, at its place
  have bod : ∀ j, j < len → cV (cF σ t (j + 1)) = cV (cF σ t j) + 1 → bBo (s3F σ t len) (cV (cF σ t j)) = true → mkZ σ t len (tr t + 14) (cb (bBo (s3F σ t len)) (cV (cF σ t j))) = cF σ t (j + 1) 23 (cV (cF σ t j)) ∧ mkZ σ t len (tr t + 15) (cb (bBo (s3F σ t len)) (cV (cF σ t j))) = cF σ t (j + 1) 24 (cV (cF σ t j)) ∧ cb (bBo (s3F σ t len)) (cV (cF σ t (j + 1))) = cb (bBo (s3F σ t len)) (cV (cF σ t j)) + 1 := by
    intro j hj hc hb
    have mo := cF_mono (t := t) h (j := j + 1) len hj (Nat.le_refl _)
    have ec := s3_cam (t := t) h (j := j + 1) (c := cV (cF σ t j)) hj (by omega)
    have := z4 (cV (cF σ t j)) (by have := mo.2.2.2.2.2.1; omega) hb
    rw [ec.1, ec.2] at this
    refine ⟨this.1, this.2, ?_⟩
    rw [hc, cb_s, hb]; rfl
  refine ⟨⟨hl, h.1, n6, n36, ?_⟩, ⟨?_, fun j hj => ?_⟩, ⟨fun l hl => ?_, c_zero.2.1, rfl, fun j hj => ?_⟩, ⟨?_, ?_, z1, fun j hj => ⟨?_, ?_⟩⟩, fun j hj v hv1 hv2 hd => ?_, fun v o a b hv hd o3 o8 ha hb g1 g2 g3 => ?_, ⟨z2, ?_, ?_, fun g hg => ?_⟩, fun v hv hc => ?_, fun l hl => ?_⟩
  · exact kp.to fun i h1 h2 => zr i (by omega) (by omega)
  · unfold rkZ mZ
    rw [z_up_ne _ _ _ (by omega), z_up_ne _ _ _ (by omega), z_up_ne _ _ _ (by omega), z_up_s]
  · obtain ⟨r1, r2, r3, r4, r5, r6, r7, r8, r9, r10, r11, r12⟩ := h.2 j hj
    refine ⟨r1, ?_, ?_, r6, ?_, r11, r12, ?_⟩
    · rw [rr 105 (by omega), (k5 j hj).1, r3lo 101 (by omega)]; exact r3
    · rw [e93]; exact r8
    · rw [e94, ← r9]; exact r10
    · rw [e106 j hj]; exact r4
  · exact (@mk0_cells σ t).2.2.1 l hl
  · have mo := cF_mono (t := t) h (j := j) (j + 1) (by omega) hj
    obtain ⟨w, hw, hs⟩ := wok (t := t) h hj
    refine ⟨mo.1, (fr_ok h (show j + 1 ≤ len from hj)).2.2, w, ?_, by rw [e94]; exact hs⟩
    unfold WOK at hw ⊢
    rw [e2, e3, e4, e94]
    exact hw
  · show cb _ (cV (cF σ t 0)) = 0
    rw [c_zero.1]; rfl
  · exact Nat.le_trans (cb_le _ _) hc30
  · rw [rr 107 (by omega)]; exact (k5 j hj).2.2
  · -- body or not
    have mo := cF_mono (t := t) h (j := j + 1) len hj (Nat.le_refl _)
    obtain ⟨h1, h2, w, ⟨v0, v3, v12, v14, vm⟩, h4⟩ := mk_one (t := t) h hj
    have hfr := fr_ok (t := t) h (show j ≤ len by omega)
    have hd6 := dpt_6 h j (by omega)
    rcases cam (t := t) h hj with ⟨q1, _, q3, q4, _⟩ | ⟨q1, q2⟩
    · refine Or.inl ⟨congrArg (cb (bBo (s3F σ t len))) q1, q4, fun h14 => ?_⟩
      obtain ⟨b, hb, sb, a1, q⟩ := v14 h14
      refine ⟨b, hb, sb, ?_⟩
      rcases q with ⟨_, _, _, q⟩ | ⟨q, _⟩
      · rw [e2, e3, e106 j hj]
        rcases q with q | ⟨g, hg, q5, q6⟩
        · have hk : s3F σ t len (tr t + 2) b = 0 := by rw [s3_val h (j := j) (by omega) (by omega) (by omega) hb]; exact q
          refine Or.inl ⟨hk, ?_⟩
          have hp : 1 ≤ dpt op j := by have := (h.2 j hj).2.2.2.2.2.2.2.2.2.2.1; rw [h14] at this; exact this
          have sb' : cF σ t j 22 (dpt op j - 1) = nI b := sb
          have hb' : b < nV (cF σ t j) (tr t) := hb
          have := (run_val (t := t) h hr j (by omega)).2 (dpt op j - 1) (by omega)
          rw [sb', tN_nI (by omega), val_num hk] at this
          rw [(hr j hj).2 h14, this]
        · obtain ⟨i, i1, i2, i3, i4⟩ := grd (t := t) h j (by omega) g hg
          refine Or.inr ⟨i, i1, i2, ?_, ?_⟩
          · have q5' : cF σ t j (tr t + 7) g = nI b := q5
            exact i3.symm.trans q5'
          · rw [e106 i (by omega), ← i4]; exact q6
      · have : cV (cF σ t (j + 1)) = cV (cF σ t j) + 1 := q
        omega
    · rcases q2 with ⟨p1, p2, p3, p4, p5, p6⟩ | ⟨p1, p2, p3, p4, p5⟩ | ⟨p1, p2, p3, p4, p5, p6, p7, p8⟩
      · -- a guard
        have hbb : bBo (s3F σ t len) (cV (cF σ t j)) = true := decide_eq_true (Or.inl (by rw [(s3_cam (t := t) h (j := j + 1) (c := cV (cF σ t j)) hj (by omega)).1, p2]; decide))
        obtain ⟨b1, b2, b3⟩ := bod j hj q1 hbb
        refine Or.inr ⟨b3, Or.inr (Or.inl ⟨p1, ?_, ?_⟩)⟩
        · show mkZ σ t len (tr t + 14) (cb _ (cV (cF σ t j))) = 1
          rw [b1, p2]
        · obtain ⟨b, hb, sb, a1, q⟩ := v14 p1
          rcases q with ⟨q, _⟩ | ⟨_, _, _, _, _, u0, u1, u2, u3, u4, u5, u6, u7, u8, u9⟩
          · have : cV (cF σ t (j + 1)) = cV (cF σ t j) := q
            omega
          · have hg15 : gV (cF σ t j) (tr t) < 15 := by
              have := (mk_all (t := t) h j (by omega)).1.2.2.2.1
              have := h.1
              have : 2 * gV (cF σ t j) (tr t) + dpt op j ≤ j := by assumption
              omega
            have gl : gV (cF σ t j) (tr t) < gV (cF σ t (j + 1)) (tr t) := by omega
            have tk1 : tk (op j) = 1 ∧ gv (op j) = 0 := by rw [p1]; decide
            have hde : dpt op (j + 1) = dpt op j - 1 := by show dpt op j - tk (op j) + gv (op j) = _; omega
            have hp : 1 ≤ dpt op j := by have := (h.2 j hj).2.2.2.2.2.2.2.2.2.2.1; omega
            have H1 : ∀ l, l < 6 → cF σ t (j + 1) 21 l = cF σ t j 21 l := by
              intro l hl
              have := h4.2.1 l hl
              rw [if_neg (by omega)] at this
              exact this
            have S1 : ∀ s, s < dpt op (j + 1) → cF σ t (j + 1) 22 s = cF σ t j 22 s := by
              intro s hs
              have := h4.2.2 s hs
              rw [if_pos (by omega)] at this
              exact this
            refine ⟨b, gV (cF σ t j) (tr t), hb, sb, s3_need h (j := j + 1) hj u7, hg15, ?_, ?_, ?_, ?_, ?_, fun l hl => ?_, fun s hs => ?_⟩
            · show mkZ σ t len (tr t + 15) (cb _ (cV (cF σ t j))) = _
              rw [b2, p3]
            · rw [zr 7 (by omega) (by omega), s3_grd h (j := j + 1) hj (by omega) (by omega) gl]; exact u1
            · rw [zr 8 (by omega) (by omega), s3_grd h (j := j + 1) hj (by omega) (by omega) gl, e106 j hj]; exact u2
            · rw [zr 9 (by omega) (by omega), s3_grd h (j := j + 1) hj (by omega) (by omega) gl, e106 j hj, e94, ← (h.2 j hj).2.2.2.2.2.2.2.2.1]; exact u3
            · rw [zr 10 (by omega) (by omega), s3_grd h (j := j + 1) hj (by omega) (by omega) gl, hde]; exact u4
            · show mkZ σ t len (tr t + 11) _ = cF σ t (j + 1) 21 l ∧ ¬ s3F σ t len 25 (tN (cF σ t (j + 1) 21 l)) = 0
              rw [H1 l hl, zr 11 (by omega) (by omega), s3_pic h (j := j + 1) hj (by omega)]
              exact ⟨u5 l hl, s3_need h (j := j + 1) hj (u8 l hl)⟩
            · show mkZ σ t len (tr t + 11) _ = cF σ t (j + 1) 22 s ∧ ¬ s3F σ t len 25 (tN (cF σ t (j + 1) 22 s)) = 0
              rw [S1 s hs, zr 11 (by omega) (by omega), s3_pic h (j := j + 1) hj (by omega), show gV (cF σ t j) (tr t) * 12 + (6 + s) = gV (cF σ t j) (tr t) * 12 + 6 + s by omega]
              exact ⟨u6 s (by omega), s3_need h (j := j + 1) hj (u9 s (by omega))⟩
      · -- an out
        have hbb : bBo (s3F σ t len) (cV (cF σ t j)) = true := decide_eq_true (Or.inl (by rw [(s3_cam (t := t) h (j := j + 1) (c := cV (cF σ t j)) hj (by omega)).1, p2]; decide))
        obtain ⟨b1, b2, b3⟩ := bod j hj q1 hbb
        obtain ⟨b, hb, sb, a1, a2, a3, a4, a5, a6, a7⟩ := v12 p1
        refine Or.inr ⟨b3, Or.inl ⟨p1, ?_, b, hb, sb, ?_, s3_need h (j := j + 1) hj a7⟩⟩
        · show mkZ σ t len (tr t + 14) (cb _ (cV (cF σ t j))) = nI 2
          rw [b1, p2]
        · show mkZ σ t len (tr t + 15) (cb _ (cV (cF σ t j))) = nI b
          rw [b2]; exact a5
      · -- an operation
        have ec := s3_cam (t := t) h (j := j + 1) (c := cV (cF σ t j)) hj (by omega)
        have hP : tN (s3F σ t len 24 (cV (cF σ t j))) = nV (cF σ t j) (tr t) := by rw [ec.2, p4, tN_nI (by omega)]
        by_cases hb : bBo (s3F σ t len) (cV (cF σ t j)) = true
        · obtain ⟨b1, b2, b3⟩ := bod j hj q1 hb
          have hb' := of_decide_eq_true hb
          rw [hP, ec.1, p3] at hb'
          have hD := hb'.resolve_left (fun q => q rfl)
          refine Or.inr ⟨b3, Or.inr (Or.inr ⟨p1, p2, ?_, ?_, p7, hD.1, ?_⟩)⟩
          · show mkZ σ t len (tr t + 14) (cb _ (cV (cF σ t j))) = 0
            rw [b1, p3]
          · show mkZ σ t len (tr t + 15) (cb _ (cV (cF σ t j))) = _
            rw [b2, p4]
          · show ¬ mkZ σ t len (tr t + 2) (nV (cF σ t j) (tr t)) = 0
            rw [e2, s3_val h (j := j + 1) hj (by omega) (by omega) (by omega), p8]
            exact (op_ne p1 p2).1
        · refine Or.inl ⟨?_, by omega, fun q => by omega⟩
          show cb _ (cV (cF σ t (j + 1))) = cb _ (cV (cF σ t j))
          rw [q1, cb_s, if_neg hb]; rfl
  · -- new values
    have hv1' : nV (cF σ t j) (tr t) ≤ v := hv1
    have hv2' : v < nV (cF σ t (j + 1)) (tr t) := hv2
    rw [e2, s3_val h (j := j + 1) hj (by omega) (by omega) hv2']
    rcases cam (t := t) h hj with ⟨_, _, _, _, q⟩ | ⟨q1, q2⟩
    · exact Or.inl (q v hv1' hv2')
    · rcases q2 with ⟨_, _, _, _, _, p6⟩ | ⟨_, _, _, _, p5⟩ | ⟨p1, p2, p3, p4, p5, p6, p7, p8⟩
      · omega
      · omega
      · have ev : nV (cF σ t j) (tr t) = v := by omega
        have mo := cF_mono (t := t) h (j := j + 1) len hj (Nat.le_refl _)
        have hlt : cV (cF σ t j) < cV (cF σ t len) := by have := mo.2.2.2.2.2.1; omega
        have ec := s3_cam (t := t) h (j := j + 1) (c := cV (cF σ t j)) hj (by omega)
        have nle := (fr_ok (t := t) h (show j + 1 ≤ len from hj)).2.2
        have hP : tN (s3F σ t len 24 (cV (cF σ t j))) = v := by rw [ec.2, p4, tN_nI (by omega), ev]
        by_cases hC : s3F σ t len 26 v = 0
        · have hbb : bBo (s3F σ t len) (cV (cF σ t j)) = true := decide_eq_true (Or.inr (by rw [hP]; exact ⟨hd, hC⟩))
          obtain ⟨b1, b2, b3⟩ := bod j hj q1 hbb
          refine Or.inr (Or.inr ⟨b3, ?_, ?_⟩)
          · show mkZ σ t len (tr t + 14) (cb _ (cV (cF σ t j))) = 0
            rw [b1, p3]
          · show mkZ σ t len (tr t + 15) (cb _ (cV (cF σ t j))) = nI v
            rw [b2, p4, ev]
        · have hhb : hBo (s3F σ t len) (cV (cF σ t j)) = true := decide_eq_true (by rw [hP, ec.1, p3]; exact ⟨rfl, hd, hC⟩)
          refine Or.inr (Or.inl ⟨_, cb_lt hlt hhb, ?_⟩)
          rw [z5 _ hlt hhb, ec.2, p4, ev]
  · rw [e2] at g1; rw [e3] at g2; rw [e4] at g3
    exact s3_cl h v (Nat.zero_le _) hv hd o a b o3 o8 ha hb g1 g2 g3
  · exact Nat.le_trans (cb_le _ _) hc30
  · rw [rr 108 (by omega)]; exact k1
  · -- the head
    obtain ⟨i, i1, i2, i3⟩ := cb_ex _ g hg
    have hq : s3F σ t len 23 i = 0 ∧ ¬ s3F σ t len 25 (tN (s3F σ t len 24 i)) = 0 ∧ ¬ s3F σ t len 26 (tN (s3F σ t len 24 i)) = 0 := of_decide_eq_true i2
    obtain ⟨j, j1, j2, j3⟩ := cam3 (t := t) h len (Nat.le_refl _) i i1
    have ec := s3_cam (t := t) h (j := j + 1) (c := i) (by omega) (by omega)
    have hop : s3F σ t len 24 i = nI (nV (cF σ t j) (tr t)) ∧ nV (cF σ t (j + 1)) (tr t) = nV (cF σ t j) (tr t) + 1 ∧ cF σ t (j + 1) (tr t + 2) (nV (cF σ t j) (tr t)) = nI (op j) ∧ 3 ≤ op j ∧ op j ≤ 8 := by
      rcases cam (t := t) h j1 with ⟨q1, _⟩ | ⟨q1, q2⟩
      · omega
      · rw [j2] at q2
        rcases q2 with ⟨_, p2, _⟩ | ⟨_, p2, _⟩ | ⟨p1, p2, p3, p4, p5, p6, p7, p8⟩
        · have := hq.1; rw [ec.1, p2] at this; exact absurd this (by decide)
        · have := hq.1; rw [ec.1, p2] at this; exact absurd this (by decide)
        · exact ⟨by rw [ec.2, p4], p7, p8, p1, p2⟩
    obtain ⟨o1, o2, o3, o4, o5⟩ := hop
    have nle := (fr_ok (t := t) h (show j + 1 ≤ len from j1)).2.2
    have hvn : nV (cF σ t j) (tr t) < nV (cF σ t len) (tr t) := by omega
    have hk : s3F σ t len (tr t + 2) (nV (cF σ t j) (tr t)) = nI (op j) := by rw [s3_val h (j := j + 1) j1 (by omega) (by omega) (by omega)]; exact o3
    rw [o1, tN_nI (by omega)] at hq
    rcases kp _ hvn with q | q | ⟨v6, o, a, b, w3, w8, ha, hb, g1, g2, g3⟩
    · exact absurd (hk.symm.trans q.2.1) (op_ne o4 o5).2
    · exact absurd (hk.symm.trans q.2) (op_ne o4 o5).1
    · have hcl := s3_cl h _ (Nat.zero_le _) hvn hq.2.1 o a b w3 w8 (by omega) (by omega) g1 g2 g3
      have hcc : ¬ s3F σ t len 26 a = 0 ∧ ¬ s3F σ t len 26 b = 0 := by
        rcases s3_cE h _ hvn with q | q | ⟨_, o', a', b', _, _, ha', hb', q1, q2, q3, q4⟩
        · omega
        · exact absurd (hk.symm.trans q.2.1) (op_ne o4 o5).1
        · have xa : a = a' := nI_inj (g2.symm.trans q2) (by omega) (by omega)
          have xb : b = b' := nI_inj (g3.symm.trans q3) (by omega) (by omega)
          subst xa; subst xb
          refine Decidable.byContradiction fun w => hq.2.2 ?_
          rw [q4]
          exact b2i_f w
      have part : ∀ a, a < nV (cF σ t j) (tr t) → ¬ s3F σ t len 25 a = 0 → ¬ s3F σ t len 26 a = 0 → a < 6 ∨ s3F σ t len (tr t + 2) a = 0 ∨ ∃ h', h' < g ∧ mkZ σ t len (tr t + 13) h' = nI a := by
        intro a ha hda hca
        by_cases a6 : a < 6
        · exact Or.inl a6
        · by_cases ak : s3F σ t len (tr t + 2) a = 0
          · exact Or.inr (Or.inl ak)
          · have ak' : ¬ cF σ t j (tr t + 2) a = 0 := by rw [← s3_val h (j := j) (by omega) (by omega) (by omega) ha]; exact ak
            obtain ⟨i', u1, u2, u3, u4, u5, u6⟩ := opv (t := t) h j (by omega) a (by omega) ha ak'
            have ec' := s3_cam (t := t) h (j := i' + 1) (c := cV (cF σ t i')) (by omega) (by omega)
            have hP : tN (s3F σ t len 24 (cV (cF σ t i'))) = a := by rw [ec'.2, u5, tN_nI (by omega)]
            have hhb : hBo (s3F σ t len) (cV (cF σ t i')) = true := decide_eq_true (by rw [hP, ec'.1, u4]; exact ⟨rfl, hda, hca⟩)
            have mo := cF_mono (t := t) h (j := i' + 1) j u1 (by omega)
            have lt1 : cV (cF σ t i') < i := by have := mo.2.2.2.2.2.1; omega
            refine Or.inr (Or.inr ⟨_, by rw [← i3]; exact cb_lt lt1 hhb, ?_⟩)
            rw [z5 _ (by omega) hhb, ec'.2, u5]
      refine ⟨nV (cF σ t j) (tr t), o, a, b, hvn, v6, ?_, hq.2.2, w3, w8, by omega, by omega, ?_, ?_, ?_, ?_, ?_⟩
      · rw [← i3, z5 i i1 i2, o1]
      · rw [e2]; exact g1
      · rw [e3]; exact g2
      · rw [e4]; exact g3
      · rw [e2]; exact part a ha hcl.1 hcc.1
      · rw [e2]; exact part b hb hcl.2 hcc.2
  · rw [e2, e3, e4, zr 12 (by omega) (by omega)]
    rcases s3_cE h v hv with ⟨q1, q2⟩ | q | ⟨_, o', a', b', w3, w8, ha', hb', q1, q2, q3, q4⟩
    · refine Or.inr (Or.inl ⟨q1, Decidable.byContradiction fun w => hc ?_⟩)
      rw [q2]; exact b2i_f w
    · exact Or.inl q.2.1
    · refine Or.inr (Or.inr ⟨o', a', b', w3, w8, by omega, by omega, q1, q2, q3, ?_⟩)
      refine Decidable.byContradiction fun w => hc ?_
      rw [q4]; exact b2i_f w
  · rw [zr 12 (by omega) (by omega)]
    exact s3_next h hl
end
