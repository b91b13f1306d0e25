/-! PART 90: a turn keeps both alike -/
section
variable {σ ρ s0 r0 : Nat → Nat → Int32} {n e tc a t len nn hs : Nat} {k op : Nat → Nat} {H S : Nat → Nat → Int32} {N B : Nat → Nat} {D C : Nat → Prop}
theorem tof_at {x : Int32} : ∀ tc, tc ≤ 4 → tofF ρ x tc = -1 ∨ ∃ t, t < tc ∧ tofF ρ x tc = nI t ∧ ρ 103 t = x := by
  intro tc
  induction tc with
  | zero => intro _; exact Or.inl rfl
  | succ tc ih =>
    intro h
    unfold tofF
    by_cases q : ρ 103 tc = x
    · rw [if_pos q]; exact Or.inr ⟨tc, by omega, rfl, q⟩
    · rw [if_neg q]
      rcases ih (by omega) with w | ⟨t, t1, t2, t3⟩
      · exact Or.inl w
      · exact Or.inr ⟨t, by omega, t2, t3⟩
/-- the head's results -/
theorem hd_ok {L : Nat → Int32} (hS : STAT σ ρ t len nn hs k op H S N B D C) (hσ : ∀ i, i ≤ 15 → i ≠ 5 → s0 (tr t + i) = σ (tr t + i)) (h6 : ∀ v, v < 6 → s0 (tr t + 5) v = L v) (h0 : ∀ v, v < nn → σ (tr t + 2) v = 0 → s0 (tr t + 5) v = σ (tr t + 3) v) :
    ∀ i, i ≤ hs → (∀ v, v < 6 → hdS s0 (tr t) i (tr t + 5) v = L v) ∧ (∀ v, v < nn → σ (tr t + 2) v = 0 → hdS s0 (tr t) i (tr t + 5) v = σ (tr t + 3) v) ∧ ∀ h v, h < i → σ (tr t + 13) h = nI v → v < nn → hdS s0 (tr t) i (tr t + 5) v = val σ (tr t) L v := by
  obtain ⟨⟨_, _, n6, n36, hkp⟩, _, _, _, _, _, ⟨_, h30, _, hh⟩, _⟩ := hS
  intro i
  induction i with
  | zero => intro _; exact ⟨h6, h0, fun h v hv => absurd hv (by omega)⟩
  | succ i ih =>
    intro hi
    obtain ⟨i1, i2, i3⟩ := ih (by omega)
    obtain ⟨v, o, x, y, hv, v6, g0, _, o3, o8, hx, hy, g1, g2, g3, px, py⟩ := hh i (by omega)
    have ne : ∀ c, c ≤ 15 → c ≠ 5 → hdS s0 (tr t) i (tr t + c) = σ (tr t + c) := fun c c1 c2 => by rw [hdS_ne _ _ _ (by omega)]; exact hσ c c1 c2
    have part : ∀ x, x < nn → (x < 6 ∨ σ (tr t + 2) x = 0 ∨ ∃ h', h' < i ∧ σ (tr t + 13) h' = nI x) → hdS s0 (tr t) i (tr t + 5) x = val σ (tr t) L x := by
      intro x hx q
      rcases q with q | q | ⟨h', q1, q2⟩
      · rw [i1 x q, val_loc hkp hx q]
      · rw [i2 x hx q, val_num q]
      · exact i3 h' x q1 q2 hx
    have e5 : hdS s0 (tr t) (i + 1) (tr t + 5) = va_up (hdS s0 (tr t) i (tr t + 5)) v (val σ (tr t) L v) := by
      show wkS (hdS s0 (tr t) i) (tr t) (tN (s0 (tr t + 13) i)) (tr t + 5) = _
      rw [hσ 13 (by omega) (by omega), g0, tN_nI (by omega)]
      unfold wkS
      rw [z_up_row, ne 2 (by omega) (by omega), ne 3 (by omega) (by omega), ne 4 (by omega) (by omega), g1, g2, g3, tN_nI (n := o) (by omega), tN_nI (n := x) (by omega), tN_nI (n := y) (by omega), part x hx px, part y hy py, ← val_op n36 hkp hv o3 o8 hx hy g1 g2 g3]
    rw [e5]
    refine ⟨fun u hu => ?_, fun u hu hk => ?_, fun h u hu hhu hun => ?_⟩
    · rw [upE, if_neg (by omega)]; exact i1 u hu
    · rw [upE, if_neg (fun q => by rw [q, g1] at hk; exact (op_ne o3 o8).1 hk)]; exact i2 u hu hk
    · rw [upE]
      by_cases q : u = v
      · rw [if_pos q, q]
      · rw [if_neg q]
        by_cases hi' : h = i
        · rw [hi', g0] at hhu
          exact absurd (nI_inj hhu (by omega) (by omega)).symm q
        · exact i3 h u (by omega) hhu hun
/-- the states at a turn's start -/
theorem tt_start (hS : STAT σ ρ t len nn hs k op H S N B D C) (ht : t < 4) (hk : ∀ v, v < nn → σ (tr t + 2) v = 0 → σ (tr t + 5) v = σ (tr t + 3) v) (hh : σ 0 12 = nI t → ∀ h v, h < hs → σ (tr t + 13) h = nI v → v < nn → σ (tr t + 5) v = val σ (tr t) (σ 7) v) (hf : FR σ ρ 0) (hg : GV σ ρ) (hta : σ 11 3 = ρ 92 34) (hlw : ρ 92 20 = σ 0 12) :
    STAT (ttH σ t hs) (tn0 ρ t) t len nn hs k op H S N B D C ∧ TI (ttH σ t hs) (tn0 ρ t) t nn hs op H S N B D (σ 7) 0 (ttH σ t hs) (tn0 ρ t) ∧ ttH σ t hs 11 3 = tn0 ρ t 92 34 ∧ (∀ i, i ≠ 3 → ttH σ t hs 11 i = σ 11 i) ∧ (∀ b, b ≠ 92 → tn0 ρ t b = ρ b) ∧ (∀ i, i ≠ 34 → i ≠ 20 → tn0 ρ t 92 i = ρ 92 i) ∧ ∀ i, 2 ≤ i → i ≤ 4 → ttH σ t hs (tr t + i) = σ (tr t + i) := by
  have hT := tr_lo t
  obtain ⟨⟨l1, l30, n6, n36, hkp⟩, _, ⟨c1, c2, c3, _⟩, ⟨d1, d2, _⟩, _, _, ⟨g1, g2, g3, g4⟩, _⟩ := id hS
  have tb : ∀ b, b ≠ tr t + 5 → b ≠ 11 → ttH σ t hs b = σ b := fun b h1 h2 => ttH_ne ⟨h1, h2⟩
  have rb : ∀ b, b ≠ 92 → tn0 ρ t b = ρ b := by
    intro b hb
    unfold tn0
    rw [z_up_ne _ _ _ hb]
    by_cases q : ρ 92 20 = nI t
    · rw [if_pos q]
    · rw [if_neg q, z_up_ne _ _ _ hb]
  have r9 : ∀ i, i ≠ 34 → i ≠ 20 → tn0 ρ t 92 i = ρ 92 i := by
    intro i h1 h2
    unfold tn0
    rw [z_up_o _ _ (Or.inr h2)]
    by_cases q : ρ 92 20 = nI t
    · rw [if_pos q]
    · rw [if_neg q, z_up_o _ _ (Or.inr h1)]
  have t11 : ∀ i, i ≠ 3 → ttH σ t hs 11 i = σ 11 i := by
    intro i hi
    unfold ttH
    by_cases q : nI t = σ 0 12
    · rw [if_pos q, tlS_ne (by omega)]
    · rw [if_neg q, z_up_o _ _ (Or.inr hi), hdS_ne _ _ _ (by omega), tlS_ne (by omega)]
  have t113 : ttH σ t hs 11 3 = tn0 ρ t 92 34 := by
    unfold ttH tn0
    rw [z_up_o _ _ (by omega), hlw]
    by_cases q : σ 0 12 = nI t
    · rw [if_pos q.symm, if_pos q, tlS_ne (by omega)]; exact hta
    · rw [if_neg (fun w => q w.symm), if_neg q, z_up_s, z_up_s, tlS_ne (by omega), g3, hta]
  have row5 : ∀ v, tlS σ (tr t) (tr t + 5) v = if v < 6 then σ 7 v else σ (tr t + 5) v := by
    intro v
    unfold tlS
    rw [z_row_s]
    unfold va_cpy
    by_cases hv : v < 6
    · rw [if_pos (by omega), if_pos hv]; congr 1; omega
    · rw [if_neg (by omega), if_neg hv]
  have k6 : ∀ v, v < nn → σ (tr t + 2) v = 0 → ¬ v < 6 := by
    intro v hv hk0 q
    rcases hkp v hv with w | w | ⟨w, _⟩
    · rw [w.2.1] at hk0; exact absurd hk0 (by decide)
    · omega
    · omega
  have tl6 : ∀ v, v < 6 → tlS σ (tr t) (tr t + 5) v = σ 7 v := fun v hv => by rw [row5, if_pos hv]
  have tl0 : ∀ v, v < nn → σ (tr t + 2) v = 0 → tlS σ (tr t) (tr t + 5) v = σ (tr t + 3) v := fun v hv hk0 => by rw [row5, if_neg (k6 v hv hk0)]; exact hk v hv hk0
  have res : (∀ v, v < 6 → ttH σ t hs (tr t + 5) v = σ 7 v) ∧ (∀ v, v < nn → σ (tr t + 2) v = 0 → ttH σ t hs (tr t + 5) v = σ (tr t + 3) v) ∧ ∀ h v, h < hs → σ (tr t + 13) h = nI v → v < nn → ttH σ t hs (tr t + 5) v = val σ (tr t) (σ 7) v := by
    unfold ttH
    by_cases q : nI t = σ 0 12
    · rw [if_pos q]
      refine ⟨tl6, tl0, fun h v h1 h2 h3 => ?_⟩
      obtain ⟨v', _, _, _, _, v6, e1, _⟩ := g4 h h1
      have : v = v' := nI_inj (h2.symm.trans e1) (by omega) (by omega)
      rw [row5, if_neg (by omega)]
      exact hh q.symm h v h1 h2 h3
    · rw [if_neg q, z_up_ne _ _ _ (by omega)]
      exact hd_ok hS (fun i _ i2 => tlS_ne (by omega)) tl6 tl0 hs (Nat.le_refl _)
  have vv : ∀ i, 2 ≤ i → i ≤ 4 → ttH σ t hs (tr t + i) = σ (tr t + i) := fun i h1 h2 => tb _ (by omega) (by omega)
  have ev : val (ttH σ t hs) (tr t) = val σ (tr t) := val_to vv
  refine ⟨hS.to (fun i i1 i2 => tb _ (by omega) (by omega)) (rb 93 (by omega)) (rb 94 (by omega)) (by rw [rb 104 (by omega)]) (by rw [rb 108 (by omega)]) (fun b j b1 b2 _ => by rw [rb b (by omega)]), ⟨⟨fun _ _ _ _ _ => rfl, fun _ _ => rfl, ?_⟩, ⟨res.1, ?_, ?_, fun v hv hd => ?_⟩, ⟨fun _ _ _ _ _ => rfl, fun _ _ _ => rfl, ?_, fun l hl => ?_, fun s hs => absurd hs (Nat.not_lt_zero _)⟩, hg.to (tb 9 (by omega) (by omega)) (tb 10 (by omega) (by omega)) (r9 11 (by omega) (by omega)) (rb 98 (by omega)), fun j hj => absurd hj (by omega)⟩, t113, t11, rb, r9, vv⟩
  · rw [d1, nI_0, Int32.add_zero]
  · rw [vv 2 (by omega) (by omega), vv 3 (by omega) (by omega)]; exact res.2.1
  · rw [tb (tr t + 13) (by omega) (by omega), ev]; exact res.2.2
  · rw [c2] at hv
    rw [res.1 v hv, ev, val_loc hkp (by omega) hv]
  · rw [r9 9 (by omega) (by omega)]; exact hf.2.1
  · rw [rb 96 (by omega), ev, c1 l hl, tN_nI (by omega), val_loc hkp (by omega) hl]; exact (hf.2.2.2.1 l hl).symm
theorem turn_rel (h : RLL σ ρ n e tc a) (htc : t < tc) (h103 : ρ 103 t = nI a) (h16 : σ 16 2 = -1) (h15 : ρ 92 15 = -1) :
    ∃ hs bs len e', σ (tr t) 4 = nI hs ∧ hs ≤ 30 ∧ bs ≤ 30 ∧ 1 ≤ len ∧ len ≤ 30 ∧ (∀ v, v < hs → ∃ q, σ (tr t + 13) v = nI q ∧ okV σ (tr t) q) ∧ bI σ (tr t) bs ∧ (∃ I, tnI t len I ∧ I 0 (tn0 ρ t)) ∧ REL (ttS σ t hs bs) (tnF t len len 0 (tn0 ρ t)) n e' tc ∧ ttS σ t hs bs 0 9 = σ 0 9 ∧ ttS σ t hs bs 16 2 = -1 ∧ (∀ b, 92 ≤ b → ttS σ t hs bs b = σ b) ∧ (∀ b, b < 92 → tnF t len len 0 (tn0 ρ t) b = ρ b) ∧ tnF t len len 0 (tn0 ρ t) 92 0 = ρ 92 0 := by
  have hT := tr_lo t
  obtain ⟨h1, h2, h3, h4, h5, h6, h7, h8, h9⟩ := h
  have ht4 : t < 4 := by have := h7.1; omega
  have h40 := h1.1
  obtain ⟨han, _⟩ := h8.good
  obtain ⟨len, nn, hs, k, op, H, S, N, B, D, C, hS, ⟨hRK, hd0⟩, ⟨p, hp, p3, p103, prch⟩, hTRC, hRES, hHDR⟩ := h9 t htc
  have hpa : p = a := nI_inj (p103.symm.trans h103) (by omega) (by omega)
  subst hpa
  have he0 : e = 0 := good_uni h8.2.1 prch h8.2.2.2.2.2
  subst he0
  obtain ⟨hS0, hTI, q3, q11, rb, r9, vv⟩ := tt_start hS ht4 hRES hHDR h3 h4 h5.2.2.2 h7.2.2.2.1
  have hfr := hS.fr
  obtain ⟨⟨l1, l30, n6, n36, hkp⟩, ⟨m1, m2⟩, ⟨c1, c2, c3, c4⟩, ⟨d1, d2, d3, d4⟩, f5, f6, ⟨g1, g2, g3, g4⟩, f8, f9⟩ := id hS
  have tb : ∀ b, b ≠ tr t + 5 → b ≠ 11 → ttH σ t hs b = σ b := fun b a1 a2 => ttH_ne ⟨a1, a2⟩
  have h6d := dpt6 hS
  -- what the contract of takeTurn asks
  have okh : ∀ v, v < hs → ∃ q, σ (tr t + 13) v = nI q ∧ okV σ (tr t) q := by
    intro v hv
    obtain ⟨u, o, x, y, hu, u6, e0, _, o3, o8, hx, hy, e1, e2, e3, _⟩ := g4 v hv
    exact ⟨u, e0, by omega, o, x, y, e1, o3, o8, e2, by omega, e3, by omega⟩
  have okb : ∀ b, b < B len → okB σ (tr t) b := by
    have : ∀ j, j ≤ len → ∀ b, b < B j → okB σ (tr t) b := by
      intro j
      induction j with
      | zero => intro _ b hb; rw [d1] at hb; omega
      | succ j ih =>
        intro hj b hb
        by_cases hbj : b < B j
        · exact ih (by omega) b hbj
        · rcases (d4 j (by omega)).2 with ⟨q1, _⟩ | ⟨q1, q2⟩
          · omega
          · have eb : b = B j := by omega
            subst eb
            have nj := hfr j (by omega)
            have nj1 := hfr (j + 1) (by omega)
            rcases q2 with ⟨y1, y2, x, yb, ys, yp, yd⟩ | ⟨y1, y2, x, g, yb, ys, yd, yg, yp, ya, yw, yo, yde, ypl, yps⟩ | ⟨y3, y8, y2, yp, yn, yd, yk⟩
            · exact ⟨x, by omega, yp, Or.inr (Or.inl y2)⟩
            · refine ⟨g, by omega, yp, Or.inr (Or.inr ⟨y2, yg, ⟨x, by omega, ya⟩, dpt op (j + 1), h6d (j + 1) (by omega), yde, fun i hi => ?_⟩)⟩
              by_cases hi6 : i < 6
              · obtain ⟨q, z1, z2⟩ := nj1.2.1 i hi6
                exact ⟨q, by omega, by rw [(ypl i hi6).1]; exact z2⟩
              · obtain ⟨q, z1, z2⟩ := nj1.2.2 (i - 6) (by omega)
                have := (yps (i - 6) (by omega)).1
                rw [show g * 12 + (6 + (i - 6)) = g * 12 + i by omega] at this
                exact ⟨q, by omega, by rw [this]; exact z2⟩
            · have hnn : N j < nn := by have := nj1.1; omega
              refine ⟨N j, by omega, yp, Or.inl ⟨y2, by omega, ?_⟩⟩
              rcases hkp (N j) hnn with w | w | ⟨w6, o, x, y, o3, o8, hx, hy, e1, e2, e3⟩
              · have : ∀ i, i ≤ len → 6 ≤ N i := by
                  intro i
                  induction i with
                  | zero => intro _; rw [c2]; exact Nat.le_refl 6
                  | succ i ih => intro hi; have := ih (by omega); have := (c4 i (by omega)).1; omega
                have := this j (by omega)
                omega
              · exact absurd w.2 yk
              · exact ⟨o, x, y, e1, o3, o8, e2, by omega, e3, by omega⟩
    exact this len (Nat.le_refl _)
  have hbI : bI σ (tr t) (B len) := by
    refine ⟨okb, d3, h4.e30, fun l hl => ?_⟩
    obtain ⟨q, z1, z2⟩ := (hfr len (Nat.le_refl _)).2.1 l hl
    exact ⟨q, by have := (hfr len (Nat.le_refl _)).1; omega, by rw [(f9 l hl).1]; exact z2⟩
  -- what the reference's turn asks
  have htn : ∃ I, tnI t len I ∧ I 0 (tn0 ρ t) := by
    refine ⟨fun j ρ' => ρ' 92 9 = nI (dpt op j) ∧ ∀ b, b ≠ 92 → b ≠ 96 → b ≠ 97 → b ≠ 98 → ρ' b = ρ b, fun j ρ' hj hI => ?_, ?_, fun b b1 _ _ _ => rb b b1⟩
    · obtain ⟨i1, i2⟩ := hI
      refine ⟨by rw [i2 104 (by omega) (by omega) (by omega) (by omega)]; exact m1, fun hjl => ?_⟩
      obtain ⟨b1, b2, b3, b4, b5, b6, b7, b8⟩ := m2 j hjl
      have x93 := i2 93 (by omega) (by omega) (by omega) (by omega)
      have x94 := i2 94 (by omega) (by omega) (by omega) (by omega)
      have hj6 := h6d j (by omega)
      have ok : dsOK ρ' (k j) := ⟨b1, op j, dpt op j, by rw [x93]; exact b3, by omega, i1, b6, hj6, b7, fun q => by rw [x94]; exact ⟨_, (b5 q).1, (b5 q).2⟩⟩
      refine ⟨k j, b1, by rw [i2 105 (by omega) (by omega) (by omega) (by omega)]; exact b2, ok, fun q => ?_, fun _ => ⟨?_, fun b h1 h2 h3 h4 => ?_⟩⟩
      · have h14 : op j = 14 := nI_inj (b3.symm.trans (by rw [← x93]; exact q)) (by omega) (by omega)
        rw [h14] at b6
        have : (1 : Nat) ≤ dpt op j := b6
        exact ⟨dpt op j - 1, by omega, by rw [i1, show dpt op j - 1 + 1 = dpt op j by omega]⟩
      · have eD : dsS ρ' (k j) = dsO ρ' (k j) (op j) (dpt op j) := by unfold dsS; rw [x93, b3, i1, tN_nI (n := op j) (by omega), tN_nI (by omega)]
        rw [eD]
        exact (ds_frame (σ := ρ') (k := k j) (op := op j) (e := dpt op j) (by omega) b6 i1).2.1
      · rw [dsS_ne ⟨h2, h3, h4, h1⟩]; exact i2 b h1 h2 h3 h4
    · show tn0 ρ t 92 9 = nI (dpt op 0)
      rw [r9 9 (by omega) (by omega)]; exact h3.2.1
  have gP : ∀ i, i ≤ 15 → ∀ t', t' ≠ t → ¬ (tr t' + i = tr t + 5) := fun i hi t' ht' => by unfold tr; omega
  rcases turn_all hS0 len 0 _ _ (by omega) hTI with ⟨σ1, ρ1, T1, e1, e2⟩ | ⟨i, σ1, ρ1, g, hi, T1, h14, hgo, hB, hg15, x10, x9, xl, xs, e1, e2⟩
  · -- whole
    refine ⟨hs, B len, len, 0, g1, g2, d2, l1, l30, okh, hbI, htn, ?_⟩
    rw [d1, Nat.sub_zero] at e1
    have et : ttS σ t hs (B len) = z_up (z_up (finS σ1 (tr t) 6) 11 1 (finS σ1 (tr t) 6 11 1 + 1)) 0 12 (nI t) := by
      unfold ttS
      rw [e1, if_neg (by show ¬ (1 : Int32) = 0; decide)]
    rw [et, e2]
    obtain ⟨⟨a1, a2, a3⟩, ⟨b1, b2, b3, b4⟩, ⟨w1, w2, w3, w4, w5⟩, hG, _⟩ := T1
    have fin_o : ∀ b, b ≠ 7 → finS σ1 (tr t) 6 b = σ1 b := fun b hb => by unfold finS; rw [rowF_ne _ _ _ hb]
    have fo : ∀ b, b ≠ 0 → b ≠ 7 → b ≠ 9 → b ≠ 10 → b ≠ 11 → b ≠ tr t + 5 → z_up (z_up (finS σ1 (tr t) 6) 11 1 (finS σ1 (tr t) 6 11 1 + 1)) 0 12 (nI t) b = σ b := fun b z0 z7 z9 z10 z11 z5 => by rw [z_up_ne _ _ _ z0, z_up_ne _ _ _ z11, fin_o b z7, a1 b z5 z9 z10 z11, tb b z5 z11]
    have f0 : ∀ i, i ≠ 12 → z_up (z_up (finS σ1 (tr t) 6) 11 1 (finS σ1 (tr t) 6 11 1 + 1)) 0 12 (nI t) 0 i = σ 0 i := fun i hi => by rw [z_up_o _ _ (Or.inr hi), z_up_ne _ _ _ (by omega), fin_o 0 (by omega), a1 0 (by omega) (by omega) (by omega) (by omega), tb 0 (by omega) (by omega)]
    have ff5 : z_up (z_up (finS σ1 (tr t) 6) 11 1 (finS σ1 (tr t) 6 11 1 + 1)) 0 12 (nI t) (tr t + 5) = σ1 (tr t + 5) := by rw [z_up_ne _ _ _ (by omega), z_up_ne _ _ _ (by omega), fin_o _ (by omega)]
    have ff : ∀ b, b = 9 ∨ b = 10 → z_up (z_up (finS σ1 (tr t) 6) 11 1 (finS σ1 (tr t) 6 11 1 + 1)) 0 12 (nI t) b = σ1 b := fun b hb => by rw [z_up_ne _ _ _ (by omega), z_up_ne _ _ _ (by omega), fin_o _ (by omega)]
    have s12 : σ1 (tr t + 12) = σ (tr t + 12) := by rw [a1 _ (by omega) (by omega) (by omega) (by omega), tb _ (by omega) (by omega)]
    have loc : ∀ l, l < 6 → z_up (z_up (finS σ1 (tr t) 6) 11 1 (finS σ1 (tr t) 6 11 1 + 1)) 0 12 (nI t) 7 l = val (ttH σ t hs) (tr t) (σ 7) (tN (H len l)) := by
      intro l hl
      rw [z_up_ne _ _ _ (by omega), z_up_ne _ _ _ (by omega)]
      unfold finS rowF
      rw [z_row_s, if_pos hl]
      show σ1 (tr t + 5) (tN (σ1 (tr t + 12) l)) = _
      rw [s12, (f9 l hl).1]
      obtain ⟨q, z1, z2⟩ := (hfr len (Nat.le_refl _)).2.1 l hl
      have hq := (hfr len (Nat.le_refl _)).1
      have eq : tN (H len l) = q := by rw [z2, tN_nI (by omega)]
      have := (f9 l hl).2
      rw [eq] at this ⊢
      exact b4 q z1 this
    have te : ∀ b, b ≠ 92 → tnE ρ1 t len b = ρ1 b := fun b hb => by unfold tnE; rw [z_up_ne _ _ _ hb, z_up_ne _ _ _ hb, z_up_ne _ _ _ hb, z_up_ne _ _ _ hb]
    have te92 : ∀ i, i ≠ 34 → i ≠ 32 → i ≠ 20 → i ≠ 7 → tnE ρ1 t len 92 i = ρ1 92 i := fun i z1 z2 z3 z4 => by unfold tnE; rw [z_up_o _ _ (Or.inr z4), z_up_o _ _ (Or.inr z3), z_up_o _ _ (Or.inr z2), z_up_o _ _ (Or.inr z1)]
    have ro : ∀ b, b ≠ 92 → b ≠ 96 → b ≠ 97 → b ≠ 98 → tnE ρ1 t len b = ρ b := fun b z1 z2 z3 z4 => by rw [te b z1, w1 b z1 z2 z3 z4, rb b z1]
    have ro92 : ∀ i, i ≠ 34 → i ≠ 32 → i ≠ 20 → i ≠ 7 → i ≠ 9 → i ≠ 11 → tnE ρ1 t len 92 i = ρ 92 i := fun i z1 z2 z3 z4 z5 z6 => by rw [te92 i z1 z2 z3 z4, w2 i z5 z6, r9 i z1 z3]
    have ee2 := fo 2 (by omega) (by omega) (by omega) (by omega) (by omega) (by omega)
    have ee3 := fo 3 (by omega) (by omega) (by omega) (by omega) (by omega) (by omega)
    refine ⟨?_, f0 9 (by omega), by rw [fo 16 (by omega) (by omega) (by omega) (by omega) (by omega) (by omega)]; exact h16, fun b hb => fo b (by omega) (by omega) (by omega) (by omega) (by omega) (by have := tr_hi ht4; omega), fun b hb => ro b (by omega) (by omega) (by omega) (by omega), ro92 0 (by omega) (by omega) (by omega) (by omega) (by omega) (by omega)⟩
    refine ⟨h1.to (by rw [fo 1 (by omega) (by omega) (by omega) (by omega) (by omega) (by omega)]) ee2 ee3 (ro92 1 (by omega) (by omega) (by omega) (by omega) (by omega) (by omega)) (ro 93 (by omega) (by omega) (by omega) (by omega)) (ro 94 (by omega) (by omega) (by omega) (by omega)), ?_, ⟨?_, ?_, by omega, fun l hl => ?_, fun x hx => absurd hx (by omega)⟩, hG.to (ff 9 (by omega)) (ff 10 (by omega)) (te92 11 (by omega) (by omega) (by omega) (by omega)) (te 98 (by omega)), ⟨?_, ?_, ?_, ?_⟩, PLC.w ?_, ?_, Or.inl ⟨?_, ?_⟩, Or.inr (Or.inr ⟨p, ?_⟩), fun t' ht' => ?_⟩
    · unfold FLG at h2 ⊢; rw [f0 9 (by omega), f0 11 (by omega), ro92 5 (by omega) (by omega) (by omega) (by omega) (by omega) (by omega), ro92 6 (by omega) (by omega) (by omega) (by omega) (by omega) (by omega)]; exact h2
    · rw [fo 6 (by omega) (by omega) (by omega) (by omega) (by omega) (by omega)]; exact h3.1
    · rw [te92 9 (by omega) (by omega) (by omega) (by omega), w3, hd0]
    · rw [loc l hl, te 96 (by omega), w4 l hl]
    · rw [z_up_ne _ _ _ (by omega), z_up_o _ _ (by omega), fin_o 11 (by omega), a2 0 (by omega), q11 0 (by omega), ro92 31 (by omega) (by omega) (by omega) (by omega) (by omega) (by omega)]; exact h5.1
    · rw [z_up_ne _ _ _ (by omega), z_up_s, fin_o 11 (by omega), a2 1 (by omega), q11 1 (by omega)]
      unfold tnE
      rw [z_up_o _ _ (by omega), z_up_o _ _ (by omega), z_up_s, w2 32 (by omega) (by omega), r9 32 (by omega) (by omega), h5.2.1]
    · rw [z_up_ne _ _ _ (by omega), z_up_o _ _ (by omega), fin_o 11 (by omega), a2 2 (by omega), q11 2 (by omega), ro92 33 (by omega) (by omega) (by omega) (by omega) (by omega) (by omega)]; exact h5.2.2.1
    · rw [z_up_ne _ _ _ (by omega), z_up_o _ _ (by omega), fin_o 11 (by omega), a3, q3]
      unfold tnE
      have e107 : ρ1 107 (30 * t + len - 1) = nI (B len) := by
        have := (d4 (len - 1) (by omega)).1
        rw [show len - 1 + 1 = len by omega] at this
        rw [w1 107 (by omega) (by omega) (by omega) (by omega), rb 107 (by omega), show 30 * t + len - 1 = 30 * t + (len - 1) by omega]
        exact this
      rw [z_up_o _ _ (by omega), z_up_o _ _ (by omega), z_up_o _ _ (by omega), z_up_s, e107, w2 34 (by omega) (by omega)]
    · intro x hx
      rw [fo 13 (by omega) (by omega) (by omega) (by omega) (by omega) (by omega), fo 14 (by omega) (by omega) (by omega) (by omega) (by omega) (by omega), fo 15 (by omega) (by omega) (by omega) (by omega) (by omega) (by omega), ro 99 (by omega) (by omega) (by omega) (by omega), ro 100 (by omega) (by omega) (by omega) (by omega), tof_congr (ro 103 (by omega) (by omega) (by omega) (by omega))]
      exact h6 x hx
    · refine ⟨h7.1, ?_, ?_, ?_, Or.inr ⟨t, htc, ?_⟩⟩
      · rw [f0 8 (by omega)]; exact h7.2.1
      · rw [ro92 19 (by omega) (by omega) (by omega) (by omega) (by omega) (by omega)]; exact h7.2.2.1
      · rw [z_up_s]; unfold tnE; rw [z_up_o _ _ (by omega), z_up_s]
      · rw [z_up_s]
    · rw [fo 16 (by omega) (by omega) (by omega) (by omega) (by omega) (by omega)]; exact h16
    · rw [ro92 15 (by omega) (by omega) (by omega) (by omega) (by omega) (by omega)]; exact h15
    · refine ⟨?_, ?_, ?_, ?_, ?_, ?_⟩
      · rw [f0 9 (by omega)]; exact h8.1
      · rw [(cd_eq ee2 ee3).1, (cd_eq ee2 ee3).2]; exact h8.2.1
      · rw [f0 10 (by omega)]; exact h8.2.2.1
      · rw [fo 6 (by omega) (by omega) (by omega) (by omega) (by omega) (by omega)]; exact h8.2.2.2.1
      · unfold tnE; rw [z_up_s, w1 103 (by omega) (by omega) (by omega) (by omega), rb 103 (by omega)]; exact p103
      · rw [(cd_eq ee2 ee3).1, (cd_eq ee2 ee3).2]; exact prch
    · by_cases htt : t' = t
      · subst htt
        have sT : ∀ i, i ≤ 15 → i ≠ 5 → z_up (z_up (finS σ1 (tr t') 6) 11 1 (finS σ1 (tr t') 6 11 1 + 1)) 0 12 (nI t') (tr t' + i) = σ (tr t' + i) := fun i i1 i2 => fo _ (by omega) (by omega) (by omega) (by omega) (by omega) (by omega)
        have sT0 := sT 0 (by omega) (by omega)
        rw [Nat.add_zero] at sT0
        refine ⟨len, nn, hs, k, op, H, S, N, B, D, C, hS.to sT (ro 93 (by omega) (by omega) (by omega) (by omega)) (ro 94 (by omega) (by omega) (by omega) (by omega)) (by rw [ro 104 (by omega) (by omega) (by omega) (by omega)]) (by rw [ro 108 (by omega) (by omega) (by omega) (by omega)]) (fun b j b1 b2 _ => by rw [ro b (by omega) (by omega) (by omega) (by omega)]), ⟨hRK.to ee2 ee3, hd0⟩, ⟨p, hp, ?_, ?_, ?_⟩, ?_, fun v hv hk => ?_, fun _ h' v hv hhv hvn => ?_⟩
        · rw [sT0]; exact p3
        · rw [ro 103 (by omega) (by omega) (by omega) (by omega)]; exact p103
        · rw [(cd_eq ee2 ee3).1, (cd_eq ee2 ee3).2]; exact prch
        · unfold TRC at hTRC ⊢
          rw [cst_st] at hTRC ⊢
          rw [sT0, sT 6 (by omega) (by omega), sT 12 (by omega) (by omega), ro 108 (by omega) (by omega) (by omega) (by omega), ro 109 (by omega) (by omega) (by omega) (by omega), ro 110 (by omega) (by omega) (by omega) (by omega), ro 111 (by omega) (by omega) (by omega) (by omega), ro 112 (by omega) (by omega) (by omega) (by omega)]
          exact hTRC
        · rw [sT 2 (by omega) (by omega)] at hk
          rw [ff5, sT 3 (by omega) (by omega)]
          have := b2 v hv (by rw [vv 2 (by omega) (by omega)]; exact hk)
          rw [vv 3 (by omega) (by omega)] at this
          exact this
        · rw [sT 13 (by omega) (by omega)] at hhv
          rw [ff5, val_to (fun i i1 i2 => sT i (by omega) (by omega))]
          obtain ⟨v', _, _, _, _, _, e1', hC, _⟩ := g4 h' hv
          have evv : v = v' := nI_inj (hhv.symm.trans e1') (by omega) (by omega)
          subst evv
          have := b3 h' v hv (by rw [tb _ (by omega) (by omega)]; exact hhv) hvn
          rw [this, val_to vv]
          refine val_cst n36 hkp (C := C) (fun u hu hcu => ?_) v hvn hC
          rcases f8 u hu hcu with w | ⟨w, w'⟩ | w
          · exact Or.inl w
          · refine Or.inr (Or.inl ⟨w, ?_⟩)
            rw [loc u w, val_to vv, ← (f9 u w).1, w', tN_nI (by omega), val_loc hkp hu w]
          · exact Or.inr (Or.inr w)
      · refine (h9 t' ht').to ee2 ee3 (fun i hi => fo _ (by have := @tr_big t' i; omega) (by have := @tr_big t' i; omega) (by have := @tr_big t' i; omega) (by have := @tr_big t' i; omega) (by have := @tr_big t' i; omega) (gP i hi t' htt)) (ro 93 (by omega) (by omega) (by omega) (by omega)) (ro 94 (by omega) (by omega) (by omega) (by omega)) (fun b hb => by rw [ro b (by omega) (by omega) (by omega) (by omega)]) (fun b j b1 b2 _ => by rw [ro b (by omega) (by omega) (by omega) (by omega)]) (Or.inl ?_)
        rw [z_up_s]
        exact fun q => htt (nI_inj q (by omega) (by have := h7.1; omega)).symm
  · -- left at a guard
    have hki := hRK i hi
    obtain ⟨b1, b2, b3, b4, b5, b6, b7, b8⟩ := m2 i hi
    refine ⟨hs, B len, len, dpt op (i + 1), g1, g2, d2, l1, l30, okh, hbI, htn, ?_⟩
    rw [d1, Nat.sub_zero] at e1
    have et : ttS σ t hs (B len) = z_up (z_up (rstG (tkS σ1) (tr t) g (dpt op (i + 1))) 11 2 (rstG (tkS σ1) (tr t) g (dpt op (i + 1)) 11 2 + 1)) 0 12 (-1) := by
      unfold ttS
      rw [e1, if_pos rfl]
    rw [et, e2]
    obtain ⟨R1, R2, R3, R4, R5, R6⟩ := TI_ref hS0 T1 hi
    obtain ⟨gb, gb1, gb2, gb3, gb4, gb5⟩ := goes_eq hS0 T1 hi h14
    obtain ⟨⟨a1, a2, a3⟩, ⟨y1, y2, y3, y4⟩, ⟨w1, w2, w3, w4, w5⟩, hG, _⟩ := id T1
    have hd1 := h6d (i + 1) (by omega)
    have nfi := hfr i (by omega)
    have tk1 : tk (op i) = 1 ∧ gv (op i) = 0 := by rw [h14]; decide
    have hde : dpt op (i + 1) = dpt op i - 1 := by show dpt op i - tk (op i) + gv (op i) = _; omega
    obtain ⟨_, _, wst, _, hst⟩ := c4 i hi
    have H1 : ∀ l, l < 6 → H (i + 1) l = H i l := fun l hl => by have := hst.2.1 l hl; rw [if_neg (by omega)] at this; exact this
    have S1 : ∀ x, x < dpt op (i + 1) → S (i + 1) x = S i x := fun x hx => by have := hst.2.2 x hx; rw [if_pos (by omega)] at this; exact this
    -- rows of the class's new state
    have tks : ∀ b, b ≠ 11 → tkS σ1 b = σ1 b := fun b hb => by unfold tkS; rw [z_up_ne _ _ _ hb]
    have rso : ∀ b, b ≠ 6 → b ≠ 7 → b ≠ 8 → rstG (tkS σ1) (tr t) g (dpt op (i + 1)) b = tkS σ1 b := fun b z1 z2 z3 => by unfold rstG rst2 rst1; rw [z_up_ne _ _ _ z1, z_up_ne _ _ _ z1, rowF_ne _ _ _ z3, rowF_ne _ _ _ z2]
    have fo : ∀ b, b ≠ 0 → b ≠ 6 → b ≠ 7 → b ≠ 8 → b ≠ 9 → b ≠ 10 → b ≠ 11 → b ≠ tr t + 5 → z_up (z_up (rstG (tkS σ1) (tr t) g (dpt op (i + 1))) 11 2 (rstG (tkS σ1) (tr t) g (dpt op (i + 1)) 11 2 + 1)) 0 12 (-1) b = σ b := fun b z0 z6 z7 z8 z9 z10 z11 z5 => by rw [z_up_ne _ _ _ z0, z_up_ne _ _ _ z11, rso b z6 z7 z8, tks b z11, a1 b z5 z9 z10 z11, tb b z5 z11]
    have f0 : ∀ i', i' ≠ 12 → z_up (z_up (rstG (tkS σ1) (tr t) g (dpt op (i + 1))) 11 2 (rstG (tkS σ1) (tr t) g (dpt op (i + 1)) 11 2 + 1)) 0 12 (-1) 0 i' = σ 0 i' := fun i' hi' => by rw [z_up_o _ _ (Or.inr hi'), z_up_ne _ _ _ (by omega), rso 0 (by omega) (by omega) (by omega), tks 0 (by omega), a1 0 (by omega) (by omega) (by omega) (by omega), tb 0 (by omega) (by omega)]
    have f5' : ∀ b, b = 9 ∨ b = 10 ∨ b = tr t + 5 → z_up (z_up (rstG (tkS σ1) (tr t) g (dpt op (i + 1))) 11 2 (rstG (tkS σ1) (tr t) g (dpt op (i + 1)) 11 2 + 1)) 0 12 (-1) b = σ1 b := fun b hb => by rw [z_up_ne _ _ _ (by omega), z_up_ne _ _ _ (by omega), rso b (by omega) (by omega) (by omega), tks b (by omega)]
    have z11 : ∀ i', z_up (z_up (rstG (tkS σ1) (tr t) g (dpt op (i + 1))) 11 2 (rstG (tkS σ1) (tr t) g (dpt op (i + 1)) 11 2 + 1)) 0 12 (-1) 11 i' = if i' = 2 then tkS σ1 11 2 + 1 else tkS σ1 11 i' := by
      intro i'
      rw [z_up_ne _ _ _ (by omega), rso 11 (by omega) (by omega) (by omega)]
      by_cases q : i' = 2
      · rw [q, z_up_s, if_pos rfl]
      · rw [z_up_o _ _ (Or.inr q), if_neg q, rso 11 (by omega) (by omega) (by omega)]
    have s11r : σ1 (tr t + 11) = ttH σ t hs (tr t + 11) := a1 _ (by omega) (by omega) (by omega) (by omega)
    have picl : ∀ l, l < 6 → pic (tkS σ1) (tr t) g l = val (ttH σ t hs) (tr t) (σ 7) (tN (H (i + 1) l)) := by
      intro l hl
      unfold pic
      rw [tks _ (by omega), tks _ (by omega), s11r, (xl l hl).1]
      obtain ⟨q, q1, q2⟩ := nfi.2.1 l hl
      have eq : tN (H (i + 1) l) = q := by rw [H1 l hl, q2, tN_nI (by omega)]
      have := (xl l hl).2
      rw [eq] at this ⊢
      exact y4 q q1 this
    have pics : ∀ x, x < dpt op (i + 1) → pic (tkS σ1) (tr t) g (6 + x) = val (ttH σ t hs) (tr t) (σ 7) (tN (S (i + 1) x)) := by
      intro x hx
      unfold pic
      rw [tks _ (by omega), tks _ (by omega), s11r, (xs x hx).1]
      obtain ⟨q, q1, q2⟩ := nfi.2.2 x (by omega)
      have eq : tN (S (i + 1) x) = q := by rw [S1 x hx, q2, tN_nI (by omega)]
      have := (xs x hx).2
      rw [eq] at this ⊢
      exact y4 q q1 this
    have row7 : ∀ l, l < 6 → z_up (z_up (rstG (tkS σ1) (tr t) g (dpt op (i + 1))) 11 2 (rstG (tkS σ1) (tr t) g (dpt op (i + 1)) 11 2 + 1)) 0 12 (-1) 7 l = pic (tkS σ1) (tr t) g l := by
      intro l hl
      rw [z_up_ne _ _ _ (by omega), z_up_ne _ _ _ (by omega)]
      unfold rstG rst2
      rw [z_up_ne _ _ _ (by omega), z_up_ne _ _ _ (by omega), rowF_ne _ _ _ (by omega)]
      unfold rst1 rowF
      rw [z_row_s, if_pos hl]
    have row8 : ∀ x, x < dpt op (i + 1) → z_up (z_up (rstG (tkS σ1) (tr t) g (dpt op (i + 1))) 11 2 (rstG (tkS σ1) (tr t) g (dpt op (i + 1)) 11 2 + 1)) 0 12 (-1) 8 x = pic (tkS σ1) (tr t) g (6 + x) := by
      intro x hx
      rw [z_up_ne _ _ _ (by omega), z_up_ne _ _ _ (by omega)]
      unfold rstG rst2
      rw [z_up_ne _ _ _ (by omega), z_up_ne _ _ _ (by omega)]
      unfold rowF
      rw [z_row_s, if_pos hx]
    have row62 : z_up (z_up (rstG (tkS σ1) (tr t) g (dpt op (i + 1))) 11 2 (rstG (tkS σ1) (tr t) g (dpt op (i + 1)) 11 2 + 1)) 0 12 (-1) 6 2 = nI (dpt op (i + 1)) := by
      rw [z_up_ne _ _ _ (by omega), z_up_ne _ _ _ (by omega)]
      unfold rstG
      rw [z_up_o _ _ (by omega), z_up_s]
    have row63 : z_up (z_up (rstG (tkS σ1) (tr t) g (dpt op (i + 1))) 11 2 (rstG (tkS σ1) (tr t) g (dpt op (i + 1)) 11 2 + 1)) 0 12 (-1) 6 3 = ttH σ t hs (tr t + 9) g := by
      rw [z_up_ne _ _ _ (by omega), z_up_ne _ _ _ (by omega)]
      unfold rstG
      rw [z_up_s, tks _ (by omega), a1 _ (by omega) (by omega) (by omega) (by omega)]
    -- rows of the reference's
    have lo : ∀ b, b ≠ 92 → tnL ρ1 (30 * t + i) (k i) b = (dsS ρ1 (k i)).2 b := fun b hb => by unfold tnL; rw [z_up_ne _ _ _ hb, z_up_ne _ _ _ hb, z_up_ne _ _ _ hb]
    have lo92 : ∀ i', i' ≠ 34 → i' ≠ 33 → i' ≠ 7 → tnL ρ1 (30 * t + i) (k i) 92 i' = (dsS ρ1 (k i)).2 92 i' := fun i' z1 z2 z3 => by unfold tnL; rw [z_up_o _ _ (Or.inr z3), z_up_o _ _ (Or.inr z2), z_up_o _ _ (Or.inr z1)]
    have ro : ∀ b, b ≠ 92 → b ≠ 96 → b ≠ 97 → b ≠ 98 → tnL ρ1 (30 * t + i) (k i) b = ρ b := fun b z1 z2 z3 z4 => by rw [lo b z1, R2 b z1 z2 z3 z4, rb b z1]
    have ro92 : ∀ i', i' ≠ 34 → i' ≠ 33 → i' ≠ 7 → i' ≠ 9 → i' ≠ 11 → i' ≠ 20 → tnL ρ1 (30 * t + i) (k i) 92 i' = ρ 92 i' := fun i' z1 z2 z3 z4 z5 z6 => by rw [lo92 i' z1 z2 z3, R3 i' z4 z5, r9 i' z1 z6]
    have ee2 := fo 2 (by omega) (by omega) (by omega) (by omega) (by omega) (by omega) (by omega) (by omega)
    have ee3 := fo 3 (by omega) (by omega) (by omega) (by omega) (by omega) (by omega) (by omega) (by omega)
    have e106 : tn0 ρ t 106 (30 * t + i) = ρ 106 (30 * t + i) := by rw [rb 106 (by omega)]
    have e94 : tn0 ρ t 94 = ρ 94 := rb 94 (by omega)
    have hcdk := h1.2.2.2 (k i) hki.1
    have ok14 : opc σ (k i) = 14 := by rw [hki.2.1]; exact h14
    have hokd := good_at h8.2.1 hki.2.2
    have nxD' : nxD (opc σ) (k i) (dpt op i) = dpt op (i + 1) := by unfold nxD; rw [hki.2.1]; rfl
    -- where both go on
    have hnext : ∃ a', ttH σ t hs (tr t + 9) g = nI a' ∧ (dsS ρ1 (k i)).1 = nI a' ∧ Rch n (opc σ) (jmc σ) a' (dpt op (i + 1)) := by
      have ds1 : (dsS ρ1 (k i)).1 = if ρ1 97 (dpt op i - 1) = 0 then nI (k i + 1) else ρ1 94 (k i) := by rw [R1, h14]; rfl
      have x94 : ρ1 94 = ρ 94 := by rw [w1 94 (by omega) (by omega) (by omega) (by omega), e94]
      rw [x9, e106, e94, ds1, gb4, x94]
      rw [gb3, e106] at hgo
      by_cases hv : val (ttH σ t hs) (tr t) (σ 7) gb = 0
      · rw [b2i_f (fun q => q hv)] at hgo
        have hw1 : ¬ ρ 106 (30 * t + i) = 0 := fun q => hgo q.symm
        rw [if_neg hw1, if_pos hv]
        refine ⟨k i + 1, rfl, rfl, ?_⟩
        rw [← nxD']
        exact hki.2.2.s hki.1 hokd.2 (Or.inl ⟨by omega, by omega, rfl⟩)
      · rw [b2i_t hv] at hgo
        have hw0 : ρ 106 (30 * t + i) = 0 := b8.resolve_right (fun q => hgo q.symm)
        rw [if_pos hw0, if_neg hv]
        refine ⟨jmc σ (k i), ?_, ?_, ?_⟩
        · rw [hcdk.2.2.2.1]; exact (hcdk.2.2.2.2.2 (Or.inr ok14)).2
        · rw [hcdk.2.2.2.1]; exact (hcdk.2.2.2.2.2 (Or.inr ok14)).2
        · rw [← nxD']
          exact hki.2.2.s hki.1 hokd.2 (Or.inr ⟨Or.inr ok14, rfl⟩)
    obtain ⟨a', na1, na2, na3⟩ := hnext
    have tk3 : tkS σ1 11 3 = tn0 ρ t 92 34 + nI (B (i + 1)) := by
      unfold tkS
      rw [z_up_s, a3, hB, ← nI_add2, q3, Int32.add_assoc]; rfl
    refine ⟨?_, f0 9 (by omega), by rw [fo 16 (by omega) (by omega) (by omega) (by omega) (by omega) (by omega) (by omega) (by omega)]; exact h16, fun b hb => fo b (by omega) (by omega) (by omega) (by omega) (by omega) (by omega) (by omega) (by have := tr_hi ht4; omega), fun b hb => ro b (by omega) (by omega) (by omega) (by omega), ro92 0 (by omega) (by omega) (by omega) (by omega) (by omega) (by omega)⟩
    refine ⟨h1.to (by rw [fo 1 (by omega) (by omega) (by omega) (by omega) (by omega) (by omega) (by omega) (by omega)]) ee2 ee3 (ro92 1 (by omega) (by omega) (by omega) (by omega) (by omega) (by omega)) (ro 93 (by omega) (by omega) (by omega) (by omega)) (ro 94 (by omega) (by omega) (by omega) (by omega)), ?_, ⟨row62, ?_, hd1, fun l hl => ?_, fun x hx => ?_⟩, ?_, ⟨?_, ?_, ?_, ?_⟩, PLC.w ?_, ?_, Or.inl ⟨?_, ?_⟩, Or.inr (Or.inr ⟨a', ?_⟩), fun t' ht' => ?_⟩
    · unfold FLG at h2 ⊢; rw [f0 9 (by omega), f0 11 (by omega), ro92 5 (by omega) (by omega) (by omega) (by omega) (by omega) (by omega), ro92 6 (by omega) (by omega) (by omega) (by omega) (by omega) (by omega)]; exact h2
    · rw [lo92 9 (by omega) (by omega) (by omega)]; exact R4
    · rw [row7 l hl, picl l hl, lo 96 (by omega), R5 l hl]
    · rw [row8 x hx, pics x hx, lo 97 (by omega), R6 x hx]
    · have dd := ds_ne12 (σ := ρ1) (k := k i) (op := op i) (e := dpt op i) (by omega) (by omega)
      rw [← R1] at dd
      refine hG.to (f5' 9 (by omega)) (f5' 10 (by omega)) ?_ ?_
      · rw [lo92 11 (by omega) (by omega) (by omega), dd.2]
      · rw [lo 98 (by omega), dd.1]
    · rw [z11, if_neg (by omega)]; unfold tkS; rw [z_up_o _ _ (by omega), a2 0 (by omega), q11 0 (by omega), ro92 31 (by omega) (by omega) (by omega) (by omega) (by omega) (by omega)]; exact h5.1
    · rw [z11, if_neg (by omega)]; unfold tkS; rw [z_up_o _ _ (by omega), a2 1 (by omega), q11 1 (by omega), ro92 32 (by omega) (by omega) (by omega) (by omega) (by omega) (by omega)]; exact h5.2.1
    · rw [z11, if_pos rfl]; unfold tkS; rw [z_up_o _ _ (by omega), a2 2 (by omega), q11 2 (by omega)]
      unfold tnL
      rw [z_up_o _ _ (by omega), z_up_s, w2 33 (by omega) (by omega), r9 33 (by omega) (by omega), h5.2.2.1]
    · rw [z11, if_neg (by omega), tk3]
      unfold tnL
      rw [z_up_o _ _ (by omega), z_up_o _ _ (by omega), z_up_s, w2 34 (by omega) (by omega), w1 107 (by omega) (by omega) (by omega) (by omega), rb 107 (by omega), (d4 i hi).1]
    · intro x hx
      rw [fo 13 (by omega) (by omega) (by omega) (by omega) (by omega) (by omega) (by omega) (by omega), fo 14 (by omega) (by omega) (by omega) (by omega) (by omega) (by omega) (by omega) (by omega), fo 15 (by omega) (by omega) (by omega) (by omega) (by omega) (by omega) (by omega) (by omega), ro 99 (by omega) (by omega) (by omega) (by omega), ro 100 (by omega) (by omega) (by omega) (by omega), tof_congr (ro 103 (by omega) (by omega) (by omega) (by omega))]
      exact h6 x hx
    · refine ⟨h7.1, ?_, ?_, ?_, Or.inl ?_⟩
      · rw [f0 8 (by omega)]; exact h7.2.1
      · rw [ro92 19 (by omega) (by omega) (by omega) (by omega) (by omega) (by omega)]; exact h7.2.2.1
      · rw [z_up_s, lo92 20 (by omega) (by omega) (by omega), R3 20 (by omega) (by omega)]; unfold tn0; rw [z_up_s]
      · rw [z_up_s]
    · rw [fo 16 (by omega) (by omega) (by omega) (by omega) (by omega) (by omega) (by omega) (by omega)]; exact h16
    · rw [ro92 15 (by omega) (by omega) (by omega) (by omega) (by omega) (by omega)]; exact h15
    · refine ⟨?_, ?_, ?_, ?_, ?_, ?_⟩
      · rw [f0 9 (by omega)]; exact h8.1
      · rw [(cd_eq ee2 ee3).1, (cd_eq ee2 ee3).2]; exact h8.2.1
      · rw [f0 10 (by omega)]; exact h8.2.2.1
      · rw [row63]; exact na1
      · unfold tnL; rw [z_up_s]; exact na2
      · rw [(cd_eq ee2 ee3).1, (cd_eq ee2 ee3).2]; exact na3
    · by_cases htt : t' = t
      · subst htt
        have sT : ∀ x, x ≤ 15 → x ≠ 5 → z_up (z_up (rstG (tkS σ1) (tr t') g (dpt op (i + 1))) 11 2 (rstG (tkS σ1) (tr t') g (dpt op (i + 1)) 11 2 + 1)) 0 12 (-1) (tr t' + x) = σ (tr t' + x) := fun x i1 i2 => fo _ (by omega) (by omega) (by omega) (by omega) (by omega) (by omega) (by omega) (by omega)
        have sT0 : z_up (z_up (rstG (tkS σ1) (tr t') g (dpt op (i + 1))) 11 2 (rstG (tkS σ1) (tr t') g (dpt op (i + 1)) 11 2 + 1)) 0 12 (-1) (tr t') = σ (tr t') := sT 0 (by omega) (by omega)
        refine ⟨len, nn, hs, k, op, H, S, N, B, D, C, hS.to sT (ro 93 (by omega) (by omega) (by omega) (by omega)) (ro 94 (by omega) (by omega) (by omega) (by omega)) (by rw [ro 104 (by omega) (by omega) (by omega) (by omega)]) (by rw [ro 108 (by omega) (by omega) (by omega) (by omega)]) (fun b j b1 b2 _ => by rw [ro b (by omega) (by omega) (by omega) (by omega)]), ⟨hRK.to ee2 ee3, hd0⟩, ⟨p, hp, ?_, ?_, ?_⟩, ?_, fun v hv hk => ?_, fun q => ?_⟩
        · rw [sT0]; exact p3
        · rw [ro 103 (by omega) (by omega) (by omega) (by omega)]; exact p103
        · rw [(cd_eq ee2 ee3).1, (cd_eq ee2 ee3).2]; exact prch
        · unfold TRC at hTRC ⊢
          rw [cst_st] at hTRC ⊢
          rw [sT0, sT 6 (by omega) (by omega), sT 12 (by omega) (by omega), ro 108 (by omega) (by omega) (by omega) (by omega), ro 109 (by omega) (by omega) (by omega) (by omega), ro 110 (by omega) (by omega) (by omega) (by omega), ro 111 (by omega) (by omega) (by omega) (by omega), ro 112 (by omega) (by omega) (by omega) (by omega)]
          exact hTRC
        · rw [sT 2 (by omega) (by omega)] at hk
          rw [f5' _ (by omega), sT 3 (by omega) (by omega)]
          have := y2 v hv (by rw [vv 2 (by omega) (by omega)]; exact hk)
          rw [vv 3 (by omega) (by omega)] at this
          exact this
        · rw [z_up_s] at q; exact absurd q.symm (nI_m1 (n := t') (by omega))
      · refine (h9 t' ht').to ee2 ee3 (fun x hx => fo _ (by have := @tr_big t' x; omega) (by have := @tr_big t' x; omega) (by have := @tr_big t' x; omega) (by have := @tr_big t' x; omega) (by have := @tr_big t' x; omega) (by have := @tr_big t' x; omega) (by have := @tr_big t' x; omega) (gP x hx t' htt)) (ro 93 (by omega) (by omega) (by omega) (by omega)) (ro 94 (by omega) (by omega) (by omega) (by omega)) (fun b hb => by rw [ro b (by omega) (by omega) (by omega) (by omega)]) (fun b j b1 b2 _ => by rw [ro b (by omega) (by omega) (by omega) (by omega)]) (Or.inl ?_)
        rw [z_up_s]
        exact fun q => nI_m1 (n := t') (by have := h7.1; omega) q.symm
end
