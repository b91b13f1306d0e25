/-! PART 75: one instruction in both makers -/
theorem vlI_hg {σ : Nat → Nat → Int32} {e n : Nat} {k w a b : Int32} : vlI (hg σ e) n k w a b = vlI σ n k w a b := by
  unfold vlI vtB
  rw [hg_ne (by omega), hg_ne (by omega), hg_ne (by omega), hg_ne (by omega)]
theorem vlN_hg {σ : Nat → Nat → Int32} {e n c : Nat} {k w a b : Int32} (hc : c ≠ 92) : vlN (hg σ e) n k w a b c = vlN σ n k w a b c := by
  unfold vlN hg
  funext j
  simp [z_up, hc]
theorem vlS_hg {σ : Nat → Nat → Int32} {e n c : Nat} {k w a b : Int32} (hc : c ≠ 92) : vlS (hg σ e) n k w a b c = vlS σ n k w a b c := by
  unfold vlS
  rw [vlI_hg]
  by_cases h : vlI σ n k w a b < n
  · rw [if_pos h, if_pos h, hg_ne hc]
  · rw [if_neg h, if_neg h, vlN_hg hc]
theorem vlS_hg92 {σ : Nat → Nat → Int32} {e n i : Nat} {k w a b : Int32} (hi : i ≠ 44) : vlS (hg σ e) n k w a b 92 i = vlS σ n k w a b 92 i := by
  unfold vlS
  rw [vlI_hg]
  by_cases h : vlI σ n k w a b < n
  · rw [if_pos h, if_pos h]; unfold hg; rw [z_up_o _ _ (Or.inr hi)]
  · rw [if_neg h, if_neg h, vlN_92, vlN_92]; unfold hg; rw [z_up_o _ _ (Or.inr hi)]
theorem cal_hg {σ : Nat → Nat → Int32} {e n op a b : Nat} : (cal (hg σ e) n op a b).1 = (cal σ n op a b).1 ∧ (∀ c, c ≠ 92 → (cal (hg σ e) n op a b).2 c = (cal σ n op a b).2 c) ∧ ∀ i, i ≠ 44 → (cal (hg σ e) n op a b).2 92 i = (cal σ n op a b).2 92 i := by
  unfold cal
  rw [hg_ne (b := 113) (by omega), hg_ne (b := 114) (by omega)]
  by_cases h : σ 113 a = 0 ∧ σ 113 b = 0
  · rw [if_pos h, if_pos h]
    exact ⟨vlI_hg, fun c hc => vlS_hg hc, fun i hi => vlS_hg92 hi⟩
  · rw [if_neg h, if_neg h]
    exact ⟨vlI_hg, fun c hc => vlS_hg hc, fun i hi => vlS_hg92 hi⟩
theorem shI_po {σ : Nat → Nat → Int32} {T e n : Nat} {k l r : Int32} (hT : 28 ≤ T) : shI (po σ 20 e) T n k l r = shI σ T n k l r := by
  unfold shI mtB
  rw [po_ne (by omega), po_ne (by omega), po_ne (by omega)]
theorem shr_po {σ : Nat → Nat → Int32} {T e n c : Nat} {k l r : Int32} (hc : c ≠ 20) : shr (po σ 20 e) T n k l r c = shr σ T n k l r c := by
  unfold shr po
  funext j
  simp [z_up, hc]
theorem shS_po {σ : Nat → Nat → Int32} {T e n c : Nat} {k l r : Int32} (hT : 28 ≤ T) (hc : c ≠ 20) : shS (po σ 20 e) T n k l r c = shS σ T n k l r c := by
  unfold shS
  rw [shI_po hT]
  by_cases h : shI σ T n k l r < n
  · rw [if_pos h, if_pos h, po_ne hc]
  · rw [if_neg h, if_neg h, shr_po hc]
theorem cmb_po {σ : Nat → Nat → Int32} {T e n op a b : Nat} (hT : 28 ≤ T) : (cmb (po σ 20 e) T n op a b).1 = (cmb σ T n op a b).1 ∧ ∀ c, c ≠ 20 → (cmb (po σ 20 e) T n op a b).2 c = (cmb σ T n op a b).2 c := by
  unfold cmb
  rw [po_ne (b := T + 2) (by omega), po_ne (b := T + 3) (by omega)]
  by_cases h : σ (T + 2) a = 0 ∧ σ (T + 2) b = 0
  · rw [if_pos h, if_pos h]
    exact ⟨shI_po hT, fun c hc => shS_po hT hc⟩
  · rw [if_neg h, if_neg h]
    refine ⟨shI_po hT, fun c hc => ?_⟩
    dsimp only
    rw [shI_po hT]
    by_cases h2 : shI σ T n (nI op) (nI a) (nI b) < n
    · rw [if_pos h2, if_pos h2, po_ne hc]
    · rw [if_neg h2, if_neg h2]
      have e19 : shr (po σ 20 e) T n (nI op) (nI a) (nI b) 19 = shr σ T n (nI op) (nI a) (nI b) 19 := shr_po (by omega)
      unfold cmS
      rw [e19]
      by_cases c19 : c = 19
      · subst c19
        rw [z_up_row, z_up_row, z_up_ne _ _ _ (by omega), z_up_ne _ _ _ (by omega), z_up_ne _ _ _ (by omega), z_up_ne _ _ _ (by omega), e19]
      · rw [z_up_ne _ _ _ c19, z_up_ne _ _ _ c19]
        by_cases c24 : c = 24
        · subst c24
          rw [z_up_row, z_up_row, z_up_ne _ _ _ (by omega), z_up_ne _ _ _ (by omega), shr_po (by omega)]
        · rw [z_up_ne _ _ _ c24, z_up_ne _ _ _ c24]
          by_cases c23 : c = 23
          · subst c23
            rw [z_up_row, z_up_row, shr_po (by omega)]
          · rw [z_up_ne _ _ _ c23, z_up_ne _ _ _ c23, shr_po hc]
section
variable {σ ρ : Nat → Nat → Int32} {t j p n e g c : Nat} {y : Int32}
/-- what a step of both makers gives -/
def mkG (σ ρ : Nat → Nat → Int32) (T j p op : Nat) (y : Int32) (n e g c : Nat) : Prop :=
  ∃ n' g' c', MI T (j + 1) (flO σ T p y op n e) (z_up (thO ρ j p op n e).2 122 j (thO ρ j p op n e).1) n' (e - tk op + gv op) g' c' ∧ SOm T σ (flO σ T p y op n e) n n' g g' c c' ∧ SOr ρ (z_up (thO ρ j p op n e).2 122 j (thO ρ j p op n e).1) j ∧ SOv T op p (σ 3 p) y (flW σ T p op n e) σ (flO σ T p y op n e) n n' e g g' c c' (thO ρ j p op n e).1
theorem mk_mv {op : Nat} (h : MI (tr t) j σ ρ n e g c) (hop : op = 1 ∨ op = 2 ∨ op = 9 ∨ op = 10 ∨ op = 11 ∨ op = 13) (ht : tk op ≤ e) (h6 : e - tk op + gv op ≤ 6) (hx : σ 3 p = ρ 94 p) (hl1 : op = 1 → tN (σ 3 p) < 6) : mkG σ ρ (tr t) j p op y n e g c := by
  have hT := tr_lo t
  have f1 : ∀ b, b ≠ 20 ∧ b ≠ 21 ∧ b ≠ 22 → flO σ (tr t) p y op n e b = σ b := by
    intro b hb
    obtain ⟨h0, h1, h2⟩ := hb
    rcases hop with rfl | rfl | rfl | rfl | rfl | rfl <;> simp [flO, pu, po, z_up_ne, h0, h1, h2]
  have f2 : ∀ b, b ≠ 92 ∧ b ≠ 120 ∧ b ≠ 121 → (thO ρ j p op n e).2 b = ρ b := by
    intro b hb
    obtain ⟨h0, h1, h2⟩ := hb
    rcases hop with rfl | rfl | rfl | rfl | rfl | rfl <;> simp [thO, hg, z_up_ne, h0, h1, h2]
  have f3 : ∀ i, i ≠ 44 → (thO ρ j p op n e).2 92 i = ρ 92 i := by
    intro i hi
    rcases hop with rfl | rfl | rfl | rfl | rfl | rfl <;> simp [thO, hg, z_up, hi]
  have f4 : (thO ρ j p op n e).1 = 0 := by
    rcases hop with rfl | rfl | rfl | rfl | rfl | rfl <;> rfl
  have ho : op < 15 := by omega
  have k1 := fl_frame (t := t) (p := p) (n := n) (y := y) ho ht h.2.2.1.1
  have k2 := th_frame (j := j) (k := p) (n := n) ho ht h.2.2.1.2.1
  have r : ∀ b, b ≠ 122 → z_up (thO ρ j p op n e).2 122 j (thO ρ j p op n e).1 b = (thO ρ j p op n e).2 b := fun b hb => z_up_ne _ _ _ hb
  obtain ⟨m1, m2, m3, m4, m5, m6, m7⟩ := h
  have hno : ¬ (op = 0 ∨ (3 ≤ op ∧ op ≤ 8)) := by omega
  have hge : 2 * g + (e - tk op + gv op) ≤ j + 1 := by
    have : gv op ≤ tk op + 1 := by rcases hop with rfl | rfl | rfl | rfl | rfl | rfl <;> decide
    omega
  refine ⟨n, g, c, ⟨m1.to ?_ ?_ ?_ ?_, by omega, ?_, hge, m5.to ?_ ?_, m6.to ?_ ?_, m7.to ?_ ?_ ?_ ?_⟩, ⟨Nat.le_refl _, ?_, Nat.le_refl _, ?_, ?_, Nat.le_refl _, ?_, ?_, ?_⟩, ⟨?_, ?_, ?_⟩, ⟨?_, ?_, ?_, ?_, ?_⟩⟩
  · rw [f1 _ (by omega)]
  · intro i _ _; rw [f1 _ (by omega)]
  · rw [r _ (by omega), f3 _ (by omega)]
  · intro i _ _; rw [r _ (by omega), f2 _ (by omega)]
  · refine FM.step (l := tN (σ 3 p)) m3 ho ht h6 hl1 (Nat.le_refl n) k1.1 (w' := thV ρ p op n e) ?_ k1.2 ?_ (fun q => absurd q hno)
    · rw [r _ (by omega), r _ (by omega), hx]; exact k2.1
    · rw [r _ (by omega)]; exact k2.2
  · rw [f1 _ (by omega)]
  · rw [f1 _ (by omega)]
  · rw [f1 _ (by omega)]
  · rw [r _ (by omega), f2 _ (by omega)]
  · rw [f1 _ (by omega)]
  · rw [f1 _ (by omega)]
  · rw [f1 _ (by omega)]
  · rw [r _ (by omega), f2 _ (by omega)]
  · intro i v _ _ _; rw [f1 _ (by omega)]
  · intro i v _ _ _; rw [f1 _ (by omega)]
  · intro x _; rw [f1 _ (by omega)]
  · intro i _; rw [f1 _ (by omega), f1 _ (by omega)]; exact ⟨rfl, rfl⟩
  · intro v hv; rw [f1 _ (by omega)]; exact hv
  · intro b hb; exact f1 b (by omega)
  · intro b hb; rw [r _ (by omega)]; exact f2 b (by omega)
  · intro i h1 h2; rw [r _ (by omega)]; exact f3 i h2
  · intro i hi; rw [z_up_o _ _ (Or.inr (by omega)), f2 _ (by omega)]
  · intro q; omega
  · intro q; omega
  · intro q; omega
  · intro q; omega
  · intro _; exact ⟨rfl, rfl, rfl, f4⟩
theorem mk_12 (h : MI (tr t) j σ ρ n e g c) (ht : 1 ≤ e) (hj : j < 30) : mkG σ ρ (tr t) j p 12 y n e g c := by
  have hT := tr_lo t
  have k1 := fl_frame (t := t) (p := p) (n := n) (y := y) (op := 12) (by omega) ht h.2.2.1.1
  have k2 := th_frame (j := j) (k := p) (n := n) (op := 12) (by omega) ht h.2.2.1.2.1
  obtain ⟨m1, m2, m3, m4, m5, m6, m7⟩ := h
  obtain ⟨hb1, b, hb, hb2⟩ := m3.2.2.2.2 (e - 1) (by omega)
  have fe : flO σ (tr t) p y 12 n e = cmS (z_up (po σ 20 (e - 1)) 25 (tN (σ 22 (e - 1))) 1) (nI 2) (σ 22 (e - 1)) := rfl
  have f1 : ∀ b', b' ≠ 19 ∧ b' ≠ 20 ∧ b' ≠ 23 ∧ b' ≠ 24 ∧ b' ≠ 25 → flO σ (tr t) p y 12 n e b' = σ b' := by
    intro b' hb'
    rw [fe, cmS_o (by omega), z_up_ne _ _ _ (by omega), po_ne (by omega)]
  have eb : tN (σ 22 (e - 1)) = b := by rw [hb2, tN_nI (by omega)]
  have c19 : po σ 20 (e - 1) 19 = σ 19 := po_ne (by omega)
  have ec : tN (z_up (po σ 20 (e - 1)) 25 (tN (σ 22 (e - 1))) 1 19 3) = c := by
    rw [z_up_ne _ _ _ (by omega), c19, m5.1, tN_nI (by have := m5.2.1; omega)]
  have g19 : flO σ (tr t) p y 12 n e 19 3 = nI (c + 1) := by
    rw [fe, cmS_19, ec]
  have g23 : flO σ (tr t) p y 12 n e 23 = va_up (σ 23) c (nI 2) := by
    rw [fe, cmS_23, ec, z_up_ne _ _ _ (by omega), po_ne (by omega)]
  have g24 : flO σ (tr t) p y 12 n e 24 = va_up (σ 24) c (nI b) := by
    rw [fe, cmS_24, ec, z_up_ne _ _ _ (by omega), po_ne (by omega), hb2]
  have g25 : flO σ (tr t) p y 12 n e 25 = va_up (σ 25) b 1 := by
    rw [fe, cmS_o (by omega), z_up_row, po_ne (by omega), eb]
  have f2 : ∀ b', b' ≠ 92 ∧ b' ≠ 117 → (thO ρ j p 12 n e).2 b' = ρ b' := by
    intro b' hb'
    show z_up (hg (hg ρ (e - 1)) (e - 1)) 117 (tN (ρ 121 (e - 1))) 1 b' = _
    rw [z_up_ne _ _ _ (by omega), hg_ne (by omega), hg_ne (by omega)]
  have f3 : ∀ i, i ≠ 44 → (thO ρ j p 12 n e).2 92 i = ρ 92 i := by
    intro i hi
    show z_up (hg (hg ρ (e - 1)) (e - 1)) 117 (tN (ρ 121 (e - 1))) 1 92 i = _
    rw [z_up_ne _ _ _ (by omega)]; unfold hg; rw [z_up_o _ _ (Or.inr hi), z_up_o _ _ (Or.inr hi)]
  have g117 : (thO ρ j p 12 n e).2 117 = va_up (ρ 117) b 1 := by
    show z_up (hg (hg ρ (e - 1)) (e - 1)) 117 (tN (ρ 121 (e - 1))) 1 117 = _
    rw [z_up_row, hg_ne (by omega), hg_ne (by omega), ← hb1, eb]
  have f4 : (thO ρ j p 12 n e).1 = nI 2 := rfl
  have r : ∀ b, b ≠ 122 → z_up (thO ρ j p 12 n e).2 122 j (thO ρ j p 12 n e).1 b = (thO ρ j p 12 n e).2 b := fun b hb => z_up_ne _ _ _ hb
  have ht1 : tk 12 = 1 := rfl
  have hg0 : gv 12 = 0 := rfl
  have h6 := m3.2.2.1
  refine ⟨n, g, c + 1, ⟨m1.to ?_ ?_ ?_ ?_, by omega, ?_, by omega, ⟨g19, by have := m5.2.1; omega, ?_⟩, ⟨?_, ?_⟩, m7.to ?_ ?_ ?_ ?_⟩, ⟨Nat.le_refl _, ?_, Nat.le_refl _, ?_, ?_, by omega, ?_, ?_, ?_⟩, ⟨?_, ?_, ?_⟩, ⟨?_, ?_, ?_, ?_, ?_⟩⟩
  · rw [f1 _ (by omega)]
  · intro i _ _; rw [f1 _ (by omega)]
  · rw [r _ (by omega), f3 _ (by omega)]
  · intro i _ _; rw [r _ (by omega), f2 _ (by omega)]
  · refine FM.step (l := tN (σ 3 p)) m3 (by omega) ht (by omega) (fun q => absurd q (by decide)) (Nat.le_refl n) k1.1 (w' := thV ρ p 12 n e) ?_ k1.2 ?_ (fun q => absurd q (by decide))
    · rw [r _ (by omega), r _ (by omega)]
      have := k2.1
      unfold stp at this ⊢
      simpa using this
    · rw [r _ (by omega)]; exact k2.2
  · intro i hi
    rw [g24, upE]
    by_cases hic : i = c
    · rw [if_pos hic]; exact ⟨b, by omega, rfl⟩
    · rw [if_neg hic]; exact m5.2.2 i (by omega)
  · intro v hv
    rw [g25, r _ (by omega), g117, upE, upE, m6.1 v hv]
  · intro v hv hv2
    rw [g25, upE, if_neg (by omega)]; exact m6.2 v hv hv2
  · rw [f1 _ (by omega)]
  · rw [f1 _ (by omega)]
  · rw [f1 _ (by omega)]
  · rw [r _ (by omega), f2 _ (by omega)]
  · intro i v _ _ _; rw [f1 _ (by omega)]
  · intro i v _ _ _; rw [f1 _ (by omega)]
  · intro x _; rw [f1 _ (by omega)]
  · intro i hi; rw [g23, g24, upE, upE, if_neg (by omega), if_neg (by omega)]; exact ⟨rfl, rfl⟩
  · intro v hv
    rw [g25, upE]
    by_cases hvb : v = b
    · rw [if_pos hvb]; decide
    · rw [if_neg hvb]; exact hv
  · intro b hb; exact f1 b (by omega)
  · intro b hb; rw [r _ (by omega)]; exact f2 b (by omega)
  · intro i h1 h2; rw [r _ (by omega)]; exact f3 i h2
  · intro i hi; rw [z_up_o _ _ (Or.inr (by omega)), f2 _ (by omega)]
  · intro q; omega
  · intro q; omega
  · intro _
    refine ⟨b, hb, hb2, rfl, rfl, rfl, ?_, ?_, rfl, ?_⟩
    · rw [g23, upE, if_pos rfl]
    · rw [g24, upE, if_pos rfl]
    · rw [g25, upE, if_pos rfl]; decide
  · intro q; omega
  · intro q; omega
end
