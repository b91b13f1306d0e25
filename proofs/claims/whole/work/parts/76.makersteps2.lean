/-! PART 76: one instruction in both makers: CONST, operations, IF -/
section
variable {σ ρ : Nat → Nat → Int32} {t j p n e g c : Nat} {y : Int32}
theorem GD.new {n g T : Nat} {k w a b : Int32} (h : GD σ ρ T n g) (h36 : n ≤ 40) : GD σ (vlN ρ n k w a b) T (n + 1) g := by
  refine ⟨h.1, fun i hi => ?_, fun v hv => ?_⟩
  · obtain ⟨q, h1, h2⟩ := h.2.1 i hi
    exact ⟨q, by omega, h2⟩
  · rw [vlN_r.2.2.2.2.2.2, upE]
    by_cases hvn : v = n
    · rw [if_pos hvn, hvn]
      have hno : ∀ y, ¬ hasG σ T g n y := by
        rintro y ⟨i, hi, h1, _⟩
        obtain ⟨q, h2, h3⟩ := h.2.1 i hi
        have := nI_inj (h1.symm.trans h3) (by omega) (by omega)
        omega
      exact ⟨Or.inl rfl, ⟨fun q => absurd (by decide) q, fun q => absurd q (hno 0)⟩, ⟨fun q => absurd (by decide) q, fun q => absurd q (hno 1)⟩⟩
    · rw [if_neg hvn]
      exact h.2.2 v (by omega)
theorem NDm.new {n : Nat} {k w a b : Int32} (h : NDm σ ρ n) (h36 : n < 36) : NDm σ (vlN ρ n k w a b) (n + 1) := by
  refine ⟨fun v hv => ?_, fun v hv hv2 => h.2 v (by omega) hv2⟩
  rw [vlN_r.2.2.2.2.1, upE]
  by_cases hvn : v = n
  · rw [if_pos hvn, hvn]; exact h.2 n (Nat.le_refl n) h36
  · rw [if_neg hvn]; exact h.1 v (by omega)
theorem mk_0 (h : MI (tr t) j σ ρ n e g c) (h6 : e + 1 ≤ 6) (hj : j < 30) (hx : σ 3 p = ρ 94 p) : mkG σ ρ (tr t) j p 0 y n e g c := by
  have hT := tr_lo t
  have k1 := fl_frame (t := t) (p := p) (n := n) (y := y) (op := 0) (by omega) (Nat.zero_le _) h.2.2.1.1
  have k2 := th_frame (j := j) (k := p) (n := n) (op := 0) (by omega) (Nat.zero_le _) h.2.2.1.2.1
  obtain ⟨m1, m2, m3, m4, m5, m6, m7⟩ := h
  have h6n := m1.2.2.1
  have fe : flO σ (tr t) p y 0 n e = pu (shS σ (tr t) n 0 (σ 3 p) 0) 20 e (nI (shI σ (tr t) n 0 (σ 3 p) 0)) := rfl
  have te : (thO ρ j p 0 n e).2 = hg (z_up (vlS (hg ρ e) n 0 (ρ 94 p) 0 0) 121 e (nI (vlI (hg ρ e) n 0 (ρ 94 p) 0 0))) (e + 1) := rfl
  have f1 : ∀ b, b ≠ 20 → b ≠ 22 → flO σ (tr t) p y 0 n e b = shS σ (tr t) n 0 (σ 3 p) 0 b := fun b h1 h2 => by rw [fe, pu_ne ⟨h1, h2⟩]
  have f2 : ∀ b, b ≠ 92 → b ≠ 121 → (thO ρ j p 0 n e).2 b = vlS ρ n 0 (σ 3 p) 0 0 b := fun b h1 h2 => by rw [te, hg_ne h1, z_up_ne _ _ _ h2, vlS_hg h1, hx]
  have f3 : ∀ i, i ≠ 44 → (thO ρ j p 0 n e).2 92 i = vlS ρ n 0 (σ 3 p) 0 0 92 i := by
    intro i hi
    rw [te]
    unfold hg
    rw [z_up_o _ _ (Or.inr hi), z_up_ne _ _ _ (by omega)]
    exact (vlS_hg92 (e := e) hi).trans (by rw [hx])
  have f4 : (thO ρ j p 0 n e).1 = 0 := rfl
  have r : ∀ b, b ≠ 122 → z_up (thO ρ j p 0 n e).2 122 j (thO ρ j p 0 n e).1 b = (thO ρ j p 0 n e).2 b := fun b hb => z_up_ne _ _ _ hb
  have ht1 : tk 0 = 0 := rfl
  have hg0 : gv 0 = 1 := rfl
  obtain ⟨he, hs⟩ := m1.share (k := 0) (l := σ 3 p) (r := 0) (k' := 0) (w := σ 3 p) (a := 0) (b := 0) (fun v hv => m1.q0 _ hv) (Or.inr (Or.inl ⟨h6n, rfl, rfl, rfl, rfl, rfl, rfl, by rw [if_pos rfl]⟩))
  have hw : flW σ (tr t) p 0 n e = nI (shI σ (tr t) n 0 (σ 3 p) 0) := rfl
  have hv' : thV ρ p 0 n e = nI (shI σ (tr t) n 0 (σ 3 p) 0) := by
    show nI (vlI (hg ρ e) n 0 (ρ 94 p) 0 0) = _
    rw [vlI_hg, ← hx, he]
  have FMs : ∀ n', n ≤ n' → shI σ (tr t) n 0 (σ 3 p) 0 < n' → FM (flO σ (tr t) p y 0 n e) (z_up (thO ρ j p 0 n e).2 122 j (thO ρ j p 0 n e).1) n' (e - tk 0 + gv 0) := by
    intro n' hn' hsn
    refine FM.step (l := tN (σ 3 p)) m3 (by omega) (Nat.zero_le _) (by omega) (fun q => absurd q (by decide)) hn' k1.1 (w' := thV ρ p 0 n e) ?_ k1.2 ?_ (fun _ => ⟨hw.trans hv'.symm, _, hsn, hw⟩)
    · rw [r _ (by omega), r _ (by omega), hx]; exact k2.1
    · rw [r _ (by omega)]; exact k2.2
  rcases hs with ⟨hsn, hs1, hs2, hs3⟩ | ⟨hsn, hs1, hs2, hs3⟩
  · rw [hs1] at f1
    rw [hs2] at f2 f3
    refine ⟨n, g, c, ⟨m1.to ?_ ?_ ?_ ?_, by omega, FMs n (Nat.le_refl n) hsn, by omega, m5.to ?_ ?_, m6.to ?_ ?_, m7.to ?_ ?_ ?_ ?_⟩, ⟨Nat.le_refl _, ?_, Nat.le_refl _, ?_, ?_, Nat.le_refl _, ?_, ?_, ?_⟩, ⟨?_, ?_, ?_⟩, ⟨?_, ?_, ?_, ?_, ?_⟩⟩
    · rw [f1 _ (by omega) (by omega)]
    · intro i _ _; rw [f1 _ (by omega) (by omega)]
    · rw [r _ (by omega), f3 _ (by omega)]
    · intro i _ _; rw [r _ (by omega), f2 _ (by omega) (by omega)]
    · rw [f1 _ (by omega) (by omega)]
    · rw [f1 _ (by omega) (by omega)]
    · rw [f1 _ (by omega) (by omega)]
    · rw [r _ (by omega), f2 _ (by omega) (by omega)]
    · rw [f1 _ (by omega) (by omega)]
    · rw [f1 _ (by omega) (by omega)]
    · rw [f1 _ (by omega) (by omega)]
    · rw [r _ (by omega), f2 _ (by omega) (by omega)]
    · intro i v _ _ _; rw [f1 _ (by omega) (by omega)]
    · intro i v _ _ _; rw [f1 _ (by omega) (by omega)]
    · intro x _; rw [f1 _ (by omega) (by omega)]
    · intro i _; rw [f1 _ (by omega) (by omega), f1 _ (by omega) (by omega)]; exact ⟨rfl, rfl⟩
    · intro v hv; rw [f1 _ (by omega) (by omega)]; exact hv
    · intro b hb; exact f1 b (by omega) (by omega)
    · intro b hb; rw [r _ (by omega)]; exact f2 b (by omega) (by omega)
    · intro i h1 h2; rw [r _ (by omega)]; exact f3 i h2
    · intro i hi; rw [z_up_o _ _ (Or.inr (by omega)), f2 _ (by omega) (by omega)]
    · intro _
      refine ⟨_, hsn, hw, ?_, ?_, rfl, rfl, rfl, fun u h1 h2 => absurd h2 (by omega)⟩
      · rw [f1 _ (by omega) (by omega)]; exact hs3.1
      · rw [f1 _ (by omega) (by omega)]; exact hs3.2.1
    · intro q; omega
    · intro q; omega
    · intro q; omega
    · intro q; omega
  · rw [hs1] at f1
    rw [hs2] at f2 f3
    have m6' := m6.new (k := 0) (w := σ 3 p) (a := 0) (b := 0) (by omega)
    have m7' := m7.new (k := 0) (w := σ 3 p) (a := 0) (b := 0) (by omega)
    have f1' : ∀ b, b ≠ 20 → b ≠ 22 → ¬ (tr t + 1 ≤ b ∧ b ≤ tr t + 5) → flO σ (tr t) p y 0 n e b = σ b := fun b h1 h2 h3 => by rw [f1 b h1 h2, shr_o (by omega)]
    have v1 : ∀ i v, 2 ≤ i → i ≤ 5 → v < n → flO σ (tr t) p y 0 n e (tr t + i) v = σ (tr t + i) v := by
      intro i v h2 h5 hv
      rw [f1 _ (by omega) (by omega)]
      have : i = 2 ∨ i = 3 ∨ i = 4 ∨ i = 5 := by omega
      rcases this with rfl | rfl | rfl | rfl
      · rw [shr_2, upE, if_neg (by omega)]
      · rw [shr_3, upE, if_neg (by omega)]
      · rw [shr_4, upE, if_neg (by omega)]
      · rw [shr_5, upE, if_neg (by omega)]
    refine ⟨n + 1, g, c, ⟨hs3.to ?_ ?_ ?_ ?_, by omega, FMs (n + 1) (by omega) (by omega), by omega, m5.to ?_ ?_, m6'.to ?_ ?_, m7'.to ?_ ?_ ?_ ?_⟩, ⟨by omega, v1, Nat.le_refl _, ?_, ?_, Nat.le_refl _, ?_, ?_, ?_⟩, ⟨?_, ?_, ?_⟩, ⟨?_, ?_, ?_, ?_, ?_⟩⟩
    · rw [f1 _ (by omega) (by omega)]
    · intro i _ _; rw [f1 _ (by omega) (by omega)]
    · rw [r _ (by omega), f3 _ (by omega)]
    · intro i _ _; rw [r _ (by omega), f2 _ (by omega) (by omega)]
    · rw [f1' _ (by omega) (by omega) (by omega)]
    · rw [f1' _ (by omega) (by omega) (by omega)]
    · rw [f1' _ (by omega) (by omega) (by omega)]
    · rw [r _ (by omega), f2 _ (by omega) (by omega)]
    · rw [f1' _ (by omega) (by omega) (by omega)]
    · rw [f1' _ (by omega) (by omega) (by omega)]
    · rw [f1' _ (by omega) (by omega) (by omega)]
    · rw [r _ (by omega), f2 _ (by omega) (by omega)]
    · intro i v _ _ _; rw [f1' _ (by omega) (by omega) (by omega)]
    · intro x _; rw [f1' _ (by omega) (by omega) (by omega)]
    · intro i _; rw [f1' _ (by omega) (by omega) (by omega), f1' _ (by omega) (by omega) (by omega)]; exact ⟨rfl, rfl⟩
    · intro v hv; rw [f1' _ (by omega) (by omega) (by omega)]; exact hv
    · intro b hb; exact f1' b (by omega) (by omega) (by omega)
    · intro b hb; rw [r _ (by omega), f2 b (by omega) (by omega), vlN_o (by omega)]
    · intro i h1 h2; rw [r _ (by omega), f3 i h2, vlN_92, if_neg h1]
    · intro i hi; rw [z_up_o _ _ (Or.inr (by omega)), f2 _ (by omega) (by omega), vlN_o (by omega)]
    · intro _
      refine ⟨n, by omega, by rw [hw, hsn], ?_, ?_, rfl, rfl, rfl, fun u h1 h2 => ?_⟩
      · rw [f1 _ (by omega) (by omega), shr_2, upE, if_pos rfl]
      · rw [f1 _ (by omega) (by omega), shr_3, upE, if_pos rfl]
      · rw [f1 _ (by omega) (by omega), shr_2, upE, if_pos (by omega)]
    · intro q; omega
    · intro q; omega
    · intro q; omega
    · intro q; omega
end
