/-! PART 78: one instruction in both makers: IF -/
section
variable {σ ρ : Nat → Nat → Int32} {t j p n e g c : Nat} {y : Int32}
theorem msk1 {x : Int32} (h : x = 0 ∨ x = 1 ∨ x = nI 2 ∨ x = nI 3) : ((x ||| 1) = 0 ∨ (x ||| 1) = 1 ∨ (x ||| 1) = nI 2 ∨ (x ||| 1) = nI 3) ∧ ¬ (x ||| 1) &&& 1 = 0 ∧ (((x ||| 1) &&& nI 2) = 0 ↔ (x &&& nI 2) = 0) := by
  rcases h with rfl | rfl | rfl | rfl <;> decide
theorem msk2 {x : Int32} (h : x = 0 ∨ x = 1 ∨ x = nI 2 ∨ x = nI 3) : ((x ||| nI 2) = 0 ∨ (x ||| nI 2) = 1 ∨ (x ||| nI 2) = nI 2 ∨ (x ||| nI 2) = nI 3) ∧ ¬ (x ||| nI 2) &&& nI 2 = 0 ∧ (((x ||| nI 2) &&& 1) = 0 ↔ (x &&& 1) = 0) := by
  rcases h with rfl | rfl | rfl | rfl <;> decide
theorem fnd_ex {P : Nat → Bool} {n : Nat} : fnd P n < n ↔ ∃ i, i < n ∧ P i = true := by
  constructor
  · intro h
    exact ⟨_, h, (fnd_spec P n).1 h⟩
  · rintro ⟨i, hi, hp⟩
    refine Nat.lt_of_not_le fun hle => ?_
    have := (fnd_spec P n).2 i (by omega)
    rw [hp] at this
    exact absurd this (by decide)
theorem hasG_iff {T b : Nat} : fnd (hsB σ T (nI b) y) g < g ↔ hasG σ T g b y := by
  rw [fnd_ex]
  unfold hasG
  constructor
  · rintro ⟨i, hi, h⟩; exact ⟨i, hi, hsB_iff.mp h⟩
  · rintro ⟨i, hi, h⟩; exact ⟨i, hi, hsB_iff.mpr h⟩
theorem thO_14 : thO ρ j p 14 n e = if ρ 113 (tN (ρ 121 (e - 1))) ≤ 0 ∨ ¬ ρ 119 (tN (ρ 121 (e - 1))) &&& thW ρ j = 0 then (0, hg (hg ρ (e - 1)) (e - 1))
  else (1, picS (z_up (z_up (hg (hg ρ (e - 1)) (e - 1)) 119 (tN (ρ 121 (e - 1))) (ρ 119 (tN (ρ 121 (e - 1))) ||| thW ρ j)) 117 (tN (ρ 121 (e - 1))) 1) (e - 1)) := rfl
theorem mk_14 (h : MI (tr t) j σ ρ n e g c) (h1 : 1 ≤ e) (hj : j < 30) (hy : y = 0 ∨ y = 1) (hyr : ρ 102 j = y) : mkG σ ρ (tr t) j p 14 y n e g c := by
  have hT := tr_lo t
  have ht2 : tk 14 = 1 := rfl
  have hg1 : gv 14 = 0 := rfl
  have k1 := fl_frame (t := t) (p := p) (n := n) (y := y) (op := 14) (by omega) (by omega) h.2.2.1.1
  have k2 := th_frame (j := j) (k := p) (n := n) (op := 14) (by omega) (by omega) h.2.2.1.2.1
  obtain ⟨m1, m2, m3, m4, m5, m6, m7⟩ := h
  have h6n := m1.2.2.1
  have h6e := m3.2.2.1
  have hcj := m5.2.1
  obtain ⟨hb1, b, hb, hb2⟩ := m3.2.2.2.2 (e - 1) (by omega)
  have eb : tN (σ 22 (e - 1)) = b := by rw [hb2, tN_nI (by omega)]
  have eb' : tN (ρ 121 (e - 1)) = b := by rw [← hb1]; exact eb
  have pn : ∀ b', b' ≠ 20 → po σ 20 (e - 1) b' = σ b' := fun b' hb' => po_ne hb'
  have eG : tN (po σ 20 (e - 1) (tr t + 6) 5) = g := by rw [pn _ (by omega), m7.1, tN_nI (by omega)]
  have eE : tN (po σ 20 (e - 1) 20 2) = e - 1 := by unfold po; rw [z_up_s, tN_nI (by omega)]
  have fe : flO σ (tr t) p y 14 n e = gdS (po σ 20 (e - 1)) (tr t) b y (if y = 0 then σ 3 p else nI (p + 1)) := by
    show gdS (po σ 20 (e - 1)) (tr t) (tN (σ 22 (e - 1))) y (if y = 0 then σ 3 p else nI (p + 1)) = _
    rw [eb]
  have te := @thO_14 ρ j p n e
  rw [eb'] at te
  unfold gdS at fe
  rw [eG, eE, pn (tr t + 2) (by omega)] at fe
  have hh : fnd (hsB (po σ 20 (e - 1)) (tr t) (nI b) y) g < g ↔ hasG σ (tr t) g b y := by
    rw [hasG_iff]
    unfold hasG
    rw [pn _ (by omega), pn _ (by omega)]
  have hm := m7.2.2 b hb
  have hmk : ¬ ρ 119 b &&& thW ρ j = 0 ↔ hasG σ (tr t) g b y := by
    unfold thW
    rw [hyr]
    rcases hy with rfl | rfl
    · rw [if_pos rfl]; exact hm.2.1
    · rw [if_neg (by decide)]; exact hm.2.2
  have r : ∀ b', b' ≠ 122 → z_up (thO ρ j p 14 n e).2 122 j (thO ρ j p 14 n e).1 b' = (thO ρ j p 14 n e).2 b' := fun b hb => z_up_ne _ _ _ hb
  have FMs : FM (flO σ (tr t) p y 14 n e) (z_up (thO ρ j p 14 n e).2 122 j (thO ρ j p 14 n e).1) n (e - tk 14 + gv 14) := by
    refine FM.step (l := tN (ρ 94 p)) m3 (by omega) (by omega) (by omega) (fun q => absurd q (by decide)) (Nat.le_refl n) (w := flW σ (tr t) p 14 n e) ?_ (w' := thV ρ p 14 n e) ?_ k1.2 ?_ (fun q => absurd q (by decide))
    · have := k1.1
      unfold stp at this ⊢
      simpa using this
    · rw [r _ (by omega), r _ (by omega)]; exact k2.1
    · rw [r _ (by omega)]; exact k2.2
  by_cases hs : σ (tr t + 2) b = 0 ∨ hasG σ (tr t) g b y
  · have fe' : flO σ (tr t) p y 14 n e = po σ 20 (e - 1) := by
      rw [fe]
      by_cases h0 : σ (tr t + 2) b = 0
      · rw [if_pos h0]
      · rw [if_neg h0, if_pos (hh.mpr (hs.resolve_left h0))]
    have te' : thO ρ j p 14 n e = (0, hg (hg ρ (e - 1)) (e - 1)) := by
      rw [te, if_pos]
      rcases hs with hs | hs
      · exact Or.inl ((m1.k0 hb).2.1.mpr hs)
      · exact Or.inr (hmk.mpr hs)
    have f1 : ∀ b', b' ≠ 20 → flO σ (tr t) p y 14 n e b' = σ b' := fun b' h1 => by rw [fe', pn b' h1]
    have f2 : ∀ b', b' ≠ 92 → (thO ρ j p 14 n e).2 b' = ρ b' := fun b' h1 => by rw [te']; dsimp only; rw [hg_ne h1, hg_ne h1]
    have f3 : ∀ i, i ≠ 44 → (thO ρ j p 14 n e).2 92 i = ρ 92 i := fun i hi => by rw [te']; dsimp only; unfold hg; rw [z_up_o _ _ (Or.inr hi), z_up_o _ _ (Or.inr hi)]
    have R0 : (thO ρ j p 14 n e).1 = 0 := by rw [te']
    refine ⟨n, g, c, ⟨m1.to ?_ ?_ ?_ ?_, by omega, FMs, by omega, m5.to ?_ ?_, m6.to ?_ ?_, m7.to ?_ ?_ ?_ ?_⟩, ⟨Nat.le_refl _, ?_, Nat.le_refl _, ?_, ?_, Nat.le_refl _, ?_, ?_, ?_⟩, ⟨?_, ?_, ?_⟩, ⟨?_, ?_, ?_, ?_, ?_⟩⟩
    · rw [f1 _ (by omega)]
    · intro i _ _; rw [f1 _ (by omega)]
    · rw [r _ (by omega), f3 _ (by omega)]
    · intro i _ _; rw [r _ (by omega), f2 _ (by omega)]
    · rw [f1 _ (by omega)]
    · rw [f1 _ (by omega)]
    · rw [f1 _ (by omega)]
    · rw [r _ (by omega), f2 _ (by omega)]
    · rw [f1 _ (by omega)]
    · rw [f1 _ (by omega)]
    · rw [f1 _ (by omega)]
    · rw [r _ (by omega), f2 _ (by omega)]
    · intro i v _ _ _; rw [f1 _ (by omega)]
    · intro i v _ _ _; rw [f1 _ (by omega)]
    · intro x _; rw [f1 _ (by omega)]
    · intro i _; rw [f1 _ (by omega), f1 _ (by omega)]; exact ⟨rfl, rfl⟩
    · intro v hv; rw [f1 _ (by omega)]; exact hv
    · intro b hb; exact f1 b (by omega)
    · intro b hb; rw [r _ (by omega)]; exact f2 b (by omega)
    · intro i h1 h2; rw [r _ (by omega)]; exact f3 i h2
    · intro i hi; rw [z_up_o _ _ (Or.inr (by omega)), f2 _ (by omega)]
    · intro q; omega
    · intro q; omega
    · intro q; omega
    · intro _
      exact ⟨b, hb, hb2, rfl, Or.inl ⟨rfl, rfl, R0, hs⟩⟩
    · intro q; omega
  · have h0 : ¬ σ (tr t + 2) b = 0 := fun q => hs (Or.inl q)
    have hn : ¬ hasG σ (tr t) g b y := fun q => hs (Or.inr q)
    rw [if_neg h0, if_neg (fun q => hn (hh.mp q))] at fe
    rw [if_neg (fun q => q.elim (fun q => h0 ((m1.k0 hb).2.1.mp q)) (fun q => hn (hmk.mp q)))] at te
    generalize hW : (if y = 0 then σ 3 p else nI (p + 1)) = W at fe
    have f1 : ∀ b', b' ≠ 20 → b' ≠ 19 → b' ≠ 23 → b' ≠ 24 → b' ≠ 25 → ¬ (tr t + 6 ≤ b' ∧ b' ≤ tr t + 11) → flO σ (tr t) p y 14 n e b' = σ b' := fun b' h1 h2 h3 h4 h5 h6 => by rw [fe, gdN_o (by omega) (by omega), pn b' h1]
    have ec : tN (po σ 20 (e - 1) 19 3) = c := by rw [pn _ (by omega), m5.1, tN_nI (by omega)]
    have g19 : flO σ (tr t) p y 14 n e 19 3 = nI (c + 1) := by rw [fe, gdN_c hT (by omega), cmS_19, ec]
    have g23 : flO σ (tr t) p y 14 n e 23 = va_up (σ 23) c 1 := by rw [fe, gdN_c hT (by omega), cmS_23, ec, pn _ (by omega)]
    have g24 : flO σ (tr t) p y 14 n e 24 = va_up (σ 24) c (nI g) := by rw [fe, gdN_c hT (by omega), cmS_24, ec, pn _ (by omega)]
    have g25 : flO σ (tr t) p y 14 n e 25 = mkd (mkd (va_up (σ 25) b 1) (σ 21) 6) (σ 22) (e - 1) := by rw [fe, gdN_25 hT, pn _ (by omega), pn _ (by omega), pn _ (by omega)]
    have g6 : flO σ (tr t) p y 14 n e (tr t + 6) 5 = nI (g + 1) := by rw [fe, gdN_p (by omega), putG_6]
    have g7 : flO σ (tr t) p y 14 n e (tr t + 7) = va_up (σ (tr t + 7)) g (nI b) := by rw [fe, gdN_p (by omega), putG_7, pn _ (by omega)]
    have g8 : flO σ (tr t) p y 14 n e (tr t + 8) = va_up (σ (tr t + 8)) g y := by rw [fe, gdN_p (by omega), putG_8, pn _ (by omega)]
    have g9 : flO σ (tr t) p y 14 n e (tr t + 9) = va_up (σ (tr t + 9)) g W := by rw [fe, gdN_p (by omega), putG_9, pn _ (by omega)]
    have g10 : flO σ (tr t) p y 14 n e (tr t + 10) = va_up (σ (tr t + 10)) g (nI (e - 1)) := by rw [fe, gdN_p (by omega), putG_10, pn _ (by omega)]
    have g11 : flO σ (tr t) p y 14 n e (tr t + 11) = va_cpy (σ 22) (va_cpy (σ 21) (σ (tr t + 11)) 0 (g * 12) 6) 0 (g * 12 + 6) (e - 1) := by rw [fe, gdN_p (by omega), putG_11 hT, pn _ (by omega), pn _ (by omega), pn _ (by omega)]
    have f2 : ∀ b', b' ≠ 92 → b' ≠ 117 → b' ≠ 119 → (thO ρ j p 14 n e).2 b' = ρ b' := fun b' h1 h2 h3 => by rw [te]; dsimp only; rw [picS_ne h2, z_up_ne _ _ _ h2, z_up_ne _ _ _ h3, hg_ne h1, hg_ne h1]
    have f3 : ∀ i, i ≠ 44 → (thO ρ j p 14 n e).2 92 i = ρ 92 i := fun i hi => (th14 (b := 120) (by omega)).2.2 i hi
    have g119 : (thO ρ j p 14 n e).2 119 = va_up (ρ 119) b (ρ 119 b ||| thW ρ j) := by rw [te]; dsimp only; rw [picS_ne (by omega), z_up_ne _ _ _ (by omega), z_up_row, hg_ne (by omega), hg_ne (by omega)]
    have g117 : (thO ρ j p 14 n e).2 117 = mkd (mkd (va_up (ρ 117) b 1) (ρ 120) 6) (ρ 121) (e - 1) := by
      rw [te]
      dsimp only
      unfold picS
      rw [mkR_c, mkR_c, mkR_ne _ _ _ _ (by omega), z_up_row, z_up_ne _ _ _ (by omega), z_up_ne _ _ _ (by omega), z_up_ne _ _ _ (by omega), z_up_ne _ _ _ (by omega), z_up_ne _ _ _ (by omega), hg_ne (by omega), hg_ne (by omega), hg_ne (by omega), hg_ne (by omega), hg_ne (by omega), hg_ne (by omega)]
    have R0 : (thO ρ j p 14 n e).1 = 1 := by rw [te]
    have hq21 : ∀ l, l < 6 → tN (σ 21 l) < n := fun l hl => by obtain ⟨q, h1, h2⟩ := (m3.2.2.2.1 l hl).2; rw [h2, tN_nI (by omega)]; exact h1
    have hq22 : ∀ s, s < e → tN (σ 22 s) < n := fun l hl => by obtain ⟨q, h1, h2⟩ := (m3.2.2.2.2 l hl).2; rw [h2, tN_nI (by omega)]; exact h1
    have hge : ∀ i b' y', hasG (flO σ (tr t) p y 14 n e) (tr t) (g + 1) b' y' ↔ (hasG σ (tr t) g b' y' ∨ (nI b = nI b' ∧ y = y')) ∨ i + 1 = 0 := by
      intro i b' y'
      unfold hasG
      rw [g7, g8]
      constructor
      · rintro ⟨i, hi, h1, h2⟩
        rw [upE] at h1 h2
        by_cases hig : i = g
        · rw [if_pos hig] at h1 h2
          exact Or.inl (Or.inr ⟨h1, h2⟩)
        · rw [if_neg hig] at h1 h2
          exact Or.inl (Or.inl ⟨i, by omega, h1, h2⟩)
      · rintro ((⟨i, hi, h1, h2⟩ | ⟨h1, h2⟩) | h)
        · exact ⟨i, by omega, by rw [upE, if_neg (by omega)]; exact h1, by rw [upE, if_neg (by omega)]; exact h2⟩
        · exact ⟨g, by omega, by rw [upE, if_pos rfl]; exact h1, by rw [upE, if_pos rfl]; exact h2⟩
        · omega
    have hgE : ∀ b' y', hasG (flO σ (tr t) p y 14 n e) (tr t) (g + 1) b' y' ↔ (hasG σ (tr t) g b' y' ∨ (nI b = nI b' ∧ y = y')) := fun b' y' => ⟨fun q => ((hge 0 b' y').mp q).resolve_right (by omega), fun q => (hge 0 b' y').mpr (Or.inl q)⟩
    have mk1 : ∀ v, ¬ va_up (σ 25) b 1 v = 0 → ¬ mkd (mkd (va_up (σ 25) b 1) (σ 21) 6) (σ 22) (e - 1) v = 0 := by
      intro v hv
      rw [mkd_iff]
      by_cases hx : ∃ j, j < e - 1 ∧ tN (σ 22 j) = v
      · rw [if_pos hx]; decide
      · rw [if_neg hx, mkd_iff]
        by_cases hx : ∃ j, j < 6 ∧ tN (σ 21 j) = v
        · rw [if_pos hx]; decide
        · rw [if_neg hx]; exact hv
    refine ⟨n, g + 1, c + 1, ⟨m1.to ?_ ?_ ?_ ?_, by omega, FMs, by omega, ⟨g19, by omega, ?_⟩, ⟨?_, ?_⟩, ⟨g6, ?_, ?_⟩⟩, ⟨Nat.le_refl _, ?_, by omega, ?_, ?_, by omega, ?_, ?_, ?_⟩, ⟨?_, ?_, ?_⟩, ⟨?_, ?_, ?_, ?_, ?_⟩⟩
    · rw [f1 _ (by omega) (by omega) (by omega) (by omega) (by omega) (by omega)]
    · intro i _ _; rw [f1 _ (by omega) (by omega) (by omega) (by omega) (by omega) (by omega)]
    · rw [r _ (by omega), f3 _ (by omega)]
    · intro i _ _; rw [r _ (by omega), f2 _ (by omega) (by omega) (by omega)]
    · intro i hi
      rw [g24, upE]
      by_cases hic : i = c
      · rw [if_pos hic]; exact ⟨g, by omega, rfl⟩
      · rw [if_neg hic]; exact m5.2.2 i (by omega)
    · intro v hv
      rw [g25, r _ (by omega), g117]
      refine mkd_mkd_eq (fun s hs => (m3.2.2.2.2 s (by omega)).1) (P := fun v => v < n) (fun v hv => ?_) v hv
      refine mkd_mkd_eq (fun s hs => (m3.2.2.2.1 s (by omega)).1) (P := fun v => v < n) (fun v hv => ?_) v hv
      rw [upE, upE, m6.1 v hv]
    · intro v hv hv2
      rw [g25, mkd_iff, if_neg, mkd_iff, if_neg, upE, if_neg (by omega)]
      · exact m6.2 v hv hv2
      · rintro ⟨s, h1, h2⟩; have := hq21 s h1; omega
      · rintro ⟨s, h1, h2⟩; have := hq22 s (by omega); omega
    · intro i hi
      rw [g7, upE]
      by_cases hig : i = g
      · rw [if_pos hig]; exact ⟨b, hb, rfl⟩
      · rw [if_neg hig]; exact m7.2.1 i (by omega)
    · intro v hv
      rw [r _ (by omega), g119, upE, hgE, hgE]
      have hmv := m7.2.2 v hv
      by_cases hvb : v = b
      · subst hvb
        rw [if_pos rfl]
        unfold thW
        rw [hyr]
        rcases hy with rfl | rfl
        · rw [if_pos rfl]
          have q := msk1 hmv.1
          refine ⟨q.1, ⟨fun _ => Or.inr ⟨rfl, rfl⟩, fun _ => q.2.1⟩, ⟨fun z => Or.inl (hmv.2.2.mp (fun w => z (q.2.2.mpr w))), fun z w => ?_⟩⟩
          rcases z with z | z
          · exact hmv.2.2.mpr z (q.2.2.mp w)
          · exact absurd z.2 (by decide)
        · rw [if_neg (by decide)]
          have q := msk2 hmv.1
          refine ⟨q.1, ⟨fun z => Or.inl (hmv.2.1.mp (fun w => z (q.2.2.mpr w))), fun z w => ?_⟩, ⟨fun _ => Or.inr ⟨rfl, rfl⟩, fun _ => q.2.1⟩⟩
          rcases z with z | z
          · exact hmv.2.1.mpr z (q.2.2.mp w)
          · exact absurd z.2 (by decide)
      · rw [if_neg hvb]
        have hne : ¬ nI b = nI v := fun q => hvb (nI_inj q (by omega) (by omega)).symm
        exact ⟨hmv.1, ⟨fun z => Or.inl (hmv.2.1.mp z), fun z => hmv.2.1.mpr (z.resolve_right fun q => hne q.1)⟩, ⟨fun z => Or.inl (hmv.2.2.mp z), fun z => hmv.2.2.mpr (z.resolve_right fun q => hne q.1)⟩⟩
    · intro i v _ _ _; rw [f1 _ (by omega) (by omega) (by omega) (by omega) (by omega) (by omega)]
    · intro i v h7 h10 hv
      have : i = 7 ∨ i = 8 ∨ i = 9 ∨ i = 10 := by omega
      rcases this with rfl | rfl | rfl | rfl
      · rw [g7, upE, if_neg (by omega)]
      · rw [g8, upE, if_neg (by omega)]
      · rw [g9, upE, if_neg (by omega)]
      · rw [g10, upE, if_neg (by omega)]
    · intro x hx
      rw [g11]
      unfold va_cpy
      rw [if_neg (by omega), if_neg (by omega)]
    · intro i _; rw [g23, g24, upE, upE, if_neg (by omega), if_neg (by omega)]; exact ⟨rfl, rfl⟩
    · intro v hv
      rw [g25]
      apply mk1
      rw [upE]
      by_cases hvb : v = b
      · rw [if_pos hvb]; decide
      · rw [if_neg hvb]; exact hv
    · intro b hb; exact f1 b (by omega) (by omega) (by omega) (by omega) (by omega) (by omega)
    · intro b hb; rw [r _ (by omega)]; exact f2 b (by omega) (by omega) (by omega)
    · intro i h1 h2; rw [r _ (by omega)]; exact f3 i h2
    · intro i hi; rw [z_up_o _ _ (Or.inr (by omega)), f2 _ (by omega) (by omega) (by omega)]
    · intro q; omega
    · intro q; omega
    · intro q; omega
    · intro _
      refine ⟨b, hb, hb2, rfl, Or.inr ⟨rfl, rfl, R0, ?_, ?_, h0, ?_, ?_, ?_, ?_, ?_, ?_, ?_, ?_, ?_⟩⟩
      · rw [g23, upE, if_pos rfl]
      · rw [g24, upE, if_pos rfl]
      · rw [g7, upE, if_pos rfl]
      · rw [g8, upE, if_pos rfl]
      · rw [g9, upE, if_pos rfl, hW]
      · rw [g10, upE, if_pos rfl]
      · intro l hl
        rw [g11]
        unfold va_cpy
        rw [if_neg (by omega), if_pos (by omega)]
        congr 1
        omega
      · intro s hs
        rw [g11]
        unfold va_cpy
        rw [if_pos (by omega)]
        congr 1
        omega
      · rw [g25]
        apply mk1
        rw [upE, if_pos rfl]; decide
      · intro l hl
        rw [g25, mkd_iff]
        by_cases hx : ∃ j, j < e - 1 ∧ tN (σ 22 j) = tN (σ 21 l)
        · rw [if_pos hx]; decide
        · rw [if_neg hx, mkd_iff, if_pos ⟨l, hl, rfl⟩]; decide
      · intro s hs
        rw [g25, mkd_iff, if_pos ⟨s, hs, rfl⟩]; decide
    · intro q; omega
theorem mk_step {op : Nat} (h : MI (tr t) j σ ρ n e g c) (hj : j < 30) (ho : op < 15) (ht : tk op ≤ e) (h6 : e - tk op + gv op ≤ 6) (hx : σ 3 p = ρ 94 p) (hl1 : op = 1 → tN (σ 3 p) < 6) (hy : y = 0 ∨ y = 1) (hyr : ρ 102 j = y) : mkG σ ρ (tr t) j p op y n e g c := by
  by_cases h0 : op = 0
  · subst h0; exact mk_0 h h6 hj hx
  · by_cases h38 : 3 ≤ op ∧ op ≤ 8
    · exact mk_op h38.1 h38.2 h (by have := (tkgv_op h38.1 h38.2).1; omega) hj
    · by_cases h12 : op = 12
      · subst h12; exact mk_12 h ht hj
      · by_cases h14 : op = 14
        · subst h14; exact mk_14 h ht hj hy hyr
        · exact mk_mv h (by omega) ht h6 hx hl1
end
