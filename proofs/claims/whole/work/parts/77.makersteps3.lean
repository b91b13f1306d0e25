/-! PART 77: one instruction in both makers: operations of two -/
section
variable {σ ρ : Nat → Nat → Int32} {t j p n e g c : Nat} {y : Int32}
theorem flO_op {T op : Nat} (h3 : 3 ≤ op) (h8 : op ≤ 8) : flO σ T p y op n e = pu (cmb (po (po σ 20 (e - 1)) 20 (e - 2)) T n op (tN (σ 22 (e - 2))) (tN (σ 22 (e - 1)))).2 20 (e - 2) (nI (cmb (po (po σ 20 (e - 1)) 20 (e - 2)) T n op (tN (σ 22 (e - 2))) (tN (σ 22 (e - 1)))).1) := by
  unfold flO
  rw [if_neg (by omega), if_neg (by omega), if_neg (by omega), if_pos h8]
theorem thO_op {op : Nat} (h3 : 3 ≤ op) (h8 : op ≤ 8) : thO σ j p op n e = (if (cal (hg σ (e - 2)) n op (tN (σ 121 (e - 2))) (tN (σ 121 (e - 1)))).2 92 35 = nI (n + 1) ∧ (cal (hg σ (e - 2)) n op (tN (σ 121 (e - 2))) (tN (σ 121 (e - 1)))).2 113 n = nI 2 then -3 - nI n else 0,
    hg (z_up (cal (hg σ (e - 2)) n op (tN (σ 121 (e - 2))) (tN (σ 121 (e - 1)))).2 121 (e - 2) (nI (cal (hg σ (e - 2)) n op (tN (σ 121 (e - 2))) (tN (σ 121 (e - 1)))).1)) (e - 1)) := by
  unfold thO
  rw [if_neg (by omega), if_neg (by omega), if_neg (by omega), if_pos h8]
theorem tkgv_op {op : Nat} (h3 : 3 ≤ op) (h8 : op ≤ 8) : tk op = 2 ∧ gv op = 1 := by
  have : op = 3 ∨ op = 4 ∨ op = 5 ∨ op = 6 ∨ op = 7 ∨ op = 8 := by omega
  rcases this with rfl | rfl | rfl | rfl | rfl | rfl <;> decide
theorem mk_op {op : Nat} (h3 : 3 ≤ op) (h8 : op ≤ 8) (h : MI (tr t) j σ ρ n e g c) (h2 : 2 ≤ e) (hj : j < 30) : mkG σ ρ (tr t) j p op y n e g c := by
  have hT := tr_lo t
  obtain ⟨ht2, hg1⟩ := tkgv_op h3 h8
  have k1 := fl_frame (t := t) (p := p) (n := n) (y := y) (op := op) (by omega) (by omega) h.2.2.1.1
  have k2 := th_frame (j := j) (k := p) (n := n) (op := op) (by omega) (by omega) h.2.2.1.2.1
  obtain ⟨m1, m2, m3, m4, m5, m6, m7⟩ := h
  have h6n := m1.2.2.1
  have h6e := m3.2.2.1
  obtain ⟨hb1, b, hb, hb2⟩ := m3.2.2.2.2 (e - 1) (by omega)
  obtain ⟨ha1, a, ha, ha2⟩ := m3.2.2.2.2 (e - 2) (by omega)
  have ea : tN (σ 22 (e - 2)) = a := by rw [ha2, tN_nI (by omega)]
  have eb : tN (σ 22 (e - 1)) = b := by rw [hb2, tN_nI (by omega)]
  have ea' : tN (ρ 121 (e - 2)) = a := by rw [← ha1]; exact ea
  have eb' : tN (ρ 121 (e - 1)) = b := by rw [← hb1]; exact eb
  have fe := @flO_op σ p n e y (tr t) op h3 h8
  have te := @thO_op ρ j p n e op h3 h8
  rw [ea, eb] at fe
  rw [ea', eb'] at te
  have cp1 := @cmb_po (po σ 20 (e - 1)) (tr t) (e - 2) n op a b hT
  have cp2 := @cmb_po σ (tr t) (e - 1) n op a b hT
  have cq := @cal_hg ρ (e - 2) n op a b
  have f1 : ∀ b', b' ≠ 20 → b' ≠ 22 → flO σ (tr t) p y op n e b' = (cmb σ (tr t) n op a b).2 b' := fun b' h1 h2 => by rw [fe, pu_ne ⟨h1, h2⟩, cp1.2 _ h1, cp2.2 _ h1]
  have f2 : ∀ b', b' ≠ 92 → b' ≠ 121 → (thO ρ j p op n e).2 b' = (cal ρ n op a b).2 b' := fun b' h1 h2 => by rw [te]; dsimp only; rw [hg_ne h1, z_up_ne _ _ _ h2, cq.2.1 _ h1]
  have f3 : ∀ i, i ≠ 44 → (thO ρ j p op n e).2 92 i = (cal ρ n op a b).2 92 i := by
    intro i hi
    rw [te]
    dsimp only
    rw [← cq.2.2 i hi]
    generalize (cal (hg ρ (e - 2)) n op a b) = q
    unfold hg
    rw [z_up_o _ _ (Or.inr hi), z_up_ne _ _ _ (by omega)]
  have f4 : (thO ρ j p op n e).1 = if (cal ρ n op a b).2 92 35 = nI (n + 1) ∧ (cal ρ n op a b).2 113 n = nI 2 then -3 - nI n else 0 := by
    rw [te]
    dsimp only
    rw [cq.2.2 35 (by omega), cq.2.1 113 (by omega)]
  have r : ∀ b', b' ≠ 122 → z_up (thO ρ j p op n e).2 122 j (thO ρ j p op n e).1 b' = (thO ρ j p op n e).2 b' := fun b hb => z_up_ne _ _ _ hb
  have hw : flW σ (tr t) p op n e = nI (cmb σ (tr t) n op a b).1 := by
    unfold flW
    rw [if_neg (by omega), ea, eb, cp1.1, cp2.1]
  have hv' : thV ρ p op n e = nI (cal ρ n op a b).1 := by
    unfold thV
    rw [if_neg (by omega), ea', eb', cq.1]
  have nnn : ¬ nI n = nI (n + 1) := fun q => by have := nI_inj q (by omega) (by omega); omega
  have FMs : ∀ n', n ≤ n' → (cmb σ (tr t) n op a b).1 < n' → (cal ρ n op a b).1 = (cmb σ (tr t) n op a b).1 → FM (flO σ (tr t) p y op n e) (z_up (thO ρ j p op n e).2 122 j (thO ρ j p op n e).1) n' (e - tk op + gv op) := by
    intro n' hn' hsn heq
    refine FM.step (l := tN (ρ 94 p)) m3 (by omega) (by omega) (by omega) (fun q => absurd q (by omega)) hn' (w := flW σ (tr t) p op n e) ?_ (w' := thV ρ p op n e) ?_ k1.2 ?_ (fun _ => ⟨by rw [hw, hv', heq], _, hsn, hw⟩)
    · have := k1.1
      unfold stp at this ⊢
      have c2 : ¬ op = 2 := by omega
      have c1 : ¬ op = 1 := by omega
      simp only [c2, c1, false_and, if_false] at this ⊢
      exact this
    · rw [r _ (by omega), r _ (by omega)]; exact k2.1
    · rw [r _ (by omega)]; exact k2.2
  by_cases hk : σ (tr t + 2) a = 0 ∧ σ (tr t + 2) b = 0
  · have hkr : ρ 113 a = 0 ∧ ρ 113 b = 0 := ⟨(m1.k0 ha).1.mp hk.1, (m1.k0 hb).1.mp hk.2⟩
    have ec : cmb σ (tr t) n op a b = (shI σ (tr t) n 0 (wk op (σ (tr t + 3) a) (σ (tr t + 3) b)) 0, shS σ (tr t) n 0 (wk op (σ (tr t + 3) a) (σ (tr t + 3) b)) 0) := by unfold cmb; rw [if_pos hk]
    have er : cal ρ n op a b = (vlI ρ n 0 (wk op (σ (tr t + 3) a) (σ (tr t + 3) b)) 0 0, vlS ρ n 0 (wk op (σ (tr t + 3) a) (σ (tr t + 3) b)) 0 0) := by unfold cal; rw [if_pos hkr, (m1.k0 ha).2.2 hk.1, (m1.k0 hb).2.2 hk.2]
    rw [ec] at f1 hw FMs
    rw [er] at f2 f3 f4 hv' FMs
    dsimp only at f1 hw FMs f2 f3 f4 hv'
    generalize hX : wk op (σ (tr t + 3) a) (σ (tr t + 3) b) = X at *
    obtain ⟨he, hs⟩ := m1.share (k := 0) (l := X) (r := 0) (k' := 0) (w := X) (a := 0) (b := 0) (fun v hv => m1.q0 _ hv) (Or.inr (Or.inl ⟨h6n, rfl, rfl, rfl, rfl, rfl, rfl, by rw [if_pos rfl]⟩))
    rcases hs with ⟨hsn, hs1, hs2, hs3⟩ | ⟨hsn, hs1, hs2, hs3⟩
    · rw [hs1] at f1
      rw [hs2] at f2 f3 f4
      have R0 : (thO ρ j p op n e).1 = 0 := by rw [f4, if_neg]; rintro ⟨q, _⟩; exact nnn (m1.2.1.symm.trans q)
      have FMs := fun n' h1 h2 => FMs n' h1 h2 he
      refine ⟨n, g, c, ⟨m1.to ?_ ?_ ?_ ?_, by omega, FMs n (Nat.le_refl n) hsn, by omega, m5.to ?_ ?_, m6.to ?_ ?_, m7.to ?_ ?_ ?_ ?_⟩, ⟨Nat.le_refl _, ?_, Nat.le_refl _, ?_, ?_, Nat.le_refl _, ?_, ?_, ?_⟩, ⟨?_, ?_, ?_⟩, ⟨?_, ?_, ?_, ?_, ?_⟩⟩
      · rw [f1 _ (by omega) (by omega)]
      · intro i _ _; rw [f1 _ (by omega) (by omega)]
      · rw [r _ (by omega), f3 _ (by omega)]
      · intro i _ _; rw [r _ (by omega), f2 _ (by omega) (by omega)]
      · rw [f1 _ (by omega) (by omega)]
      · rw [f1 _ (by omega) (by omega)]
      · rw [f1 _ (by omega) (by omega)]
      · rw [r _ (by omega), f2 _ (by omega) (by omega)]
      · rw [f1 _ (by omega) (by omega)]
      · rw [f1 _ (by omega) (by omega)]
      · rw [f1 _ (by omega) (by omega)]
      · rw [r _ (by omega), f2 _ (by omega) (by omega)]
      · intro i v _ _ _; rw [f1 _ (by omega) (by omega)]
      · intro i v _ _ _; rw [f1 _ (by omega) (by omega)]
      · intro x _; rw [f1 _ (by omega) (by omega)]
      · intro i _; rw [f1 _ (by omega) (by omega), f1 _ (by omega) (by omega)]; exact ⟨rfl, rfl⟩
      · intro v hv; rw [f1 _ (by omega) (by omega)]; exact hv
      · intro b hb; exact f1 b (by omega) (by omega)
      · intro b hb; rw [r _ (by omega)]; exact f2 b (by omega) (by omega)
      · intro i h1 h2; rw [r _ (by omega)]; exact f3 i h2
      · intro i hi; rw [z_up_o _ _ (Or.inr (by omega)), f2 _ (by omega) (by omega)]
      · intro q; omega
      · intro _
        refine ⟨a, b, _, ha, hb, ha2, hb2, hsn, hw, rfl, Or.inl ⟨hk.1, hk.2, ?_, ?_, rfl, R0, fun u h1 h2 => absurd h2 (by omega)⟩⟩
        · rw [f1 _ (by omega) (by omega)]; exact hs3.1
        · rw [f1 _ (by omega) (by omega), hX]; exact hs3.2.1
      · intro q; omega
      · intro q; omega
      · intro q; omega
    · rw [hs1] at f1
      rw [hs2] at f2 f3 f4
      have R0 : (thO ρ j p op n e).1 = 0 := by rw [f4, if_neg]; rintro ⟨_, q⟩; rw [vlN_r.1, upE, if_pos rfl] at q; exact absurd q (by decide)
      have FMs := fun n' h1 h2 => FMs n' h1 h2 he
      have m6' := m6.new (k := 0) (w := X) (a := 0) (b := 0) (by omega)
      have m7' := m7.new (k := 0) (w := X) (a := 0) (b := 0) (by omega)
      have f1' : ∀ b, b ≠ 20 → b ≠ 22 → ¬ (tr t + 1 ≤ b ∧ b ≤ tr t + 5) → flO σ (tr t) p y op n e b = σ b := fun b h1 h2 h3 => by rw [f1 b h1 h2, shr_o (by omega)]
      have v1 : ∀ i v, 2 ≤ i → i ≤ 5 → v < n → flO σ (tr t) p y op n e (tr t + i) v = σ (tr t + i) v := by
        intro i v h2 h5 hv
        rw [f1 _ (by omega) (by omega)]
        have : i = 2 ∨ i = 3 ∨ i = 4 ∨ i = 5 := by omega
        rcases this with rfl | rfl | rfl | rfl
        · rw [shr_2, upE, if_neg (by omega)]
        · rw [shr_3, upE, if_neg (by omega)]
        · rw [shr_4, upE, if_neg (by omega)]
        · rw [shr_5, upE, if_neg (by omega)]
      refine ⟨n + 1, g, c, ⟨hs3.to ?_ ?_ ?_ ?_, by omega, FMs (n + 1) (by omega) (by omega), by omega, m5.to ?_ ?_, m6'.to ?_ ?_, m7'.to ?_ ?_ ?_ ?_⟩, ⟨by omega, v1, Nat.le_refl _, ?_, ?_, Nat.le_refl _, ?_, ?_, ?_⟩, ⟨?_, ?_, ?_⟩, ⟨?_, ?_, ?_, ?_, ?_⟩⟩
      · rw [f1 _ (by omega) (by omega)]
      · intro i _ _; rw [f1 _ (by omega) (by omega)]
      · rw [r _ (by omega), f3 _ (by omega)]
      · intro i _ _; rw [r _ (by omega), f2 _ (by omega) (by omega)]
      · rw [f1' _ (by omega) (by omega) (by omega)]
      · rw [f1' _ (by omega) (by omega) (by omega)]
      · rw [f1' _ (by omega) (by omega) (by omega)]
      · rw [r _ (by omega), f2 _ (by omega) (by omega)]
      · rw [f1' _ (by omega) (by omega) (by omega)]
      · rw [f1' _ (by omega) (by omega) (by omega)]
      · rw [f1' _ (by omega) (by omega) (by omega)]
      · rw [r _ (by omega), f2 _ (by omega) (by omega)]
      · intro i v _ _ _; rw [f1' _ (by omega) (by omega) (by omega)]
      · intro x _; rw [f1' _ (by omega) (by omega) (by omega)]
      · intro i _; rw [f1' _ (by omega) (by omega) (by omega), f1' _ (by omega) (by omega) (by omega)]; exact ⟨rfl, rfl⟩
      · intro v hv; rw [f1' _ (by omega) (by omega) (by omega)]; exact hv
      · intro b hb; exact f1' b (by omega) (by omega) (by omega)
      · intro b hb; rw [r _ (by omega), f2 b (by omega) (by omega), vlN_o (by omega)]
      · intro i h1 h2; rw [r _ (by omega), f3 i h2, vlN_92, if_neg h1]
      · intro i hi; rw [z_up_o _ _ (Or.inr (by omega)), f2 _ (by omega) (by omega), vlN_o (by omega)]
      · intro q; omega
      · intro _
        refine ⟨a, b, n, ha, hb, ha2, hb2, by omega, by rw [hw, hsn], rfl, Or.inl ⟨hk.1, hk.2, ?_, ?_, rfl, R0, fun u h1 h2 => ?_⟩⟩
        · rw [f1 _ (by omega) (by omega), shr_2, upE, if_pos rfl]
        · rw [f1 _ (by omega) (by omega), shr_3, upE, if_pos rfl, hX]
        · rw [f1 _ (by omega) (by omega), shr_2, upE, if_pos (by omega)]
      · intro q; omega
      · intro q; omega
      · intro q; omega
  · have hkr : ¬ (ρ 113 a = 0 ∧ ρ 113 b = 0) := fun q => hk ⟨(m1.k0 ha).1.mpr q.1, (m1.k0 hb).1.mpr q.2⟩
    have ec : cmb σ (tr t) n op a b = (shI σ (tr t) n (nI op) (nI a) (nI b), if shI σ (tr t) n (nI op) (nI a) (nI b) < n then σ else cmS (shr σ (tr t) n (nI op) (nI a) (nI b)) 0 (nI n)) := by unfold cmb; rw [if_neg hk]
    have er : cal ρ n op a b = (vlI ρ n (nI 2) (nI op) (nI a) (nI b), vlS ρ n (nI 2) (nI op) (nI a) (nI b)) := by unfold cal; rw [if_neg hkr]
    rw [ec] at f1 hw FMs
    rw [er] at f2 f3 f4 hv' FMs
    dsimp only at f1 hw FMs f2 f3 f4 hv'
    have ne0 : ¬ nI op = 0 := nI_ne0 (by omega) (by omega)
    obtain ⟨he, hs⟩ := m1.share (k := nI op) (l := nI a) (r := nI b) (k' := nI 2) (w := nI op) (a := nI a) (b := nI b) (fun v hv => m1.qo (by omega) h3 h8 (by omega) (by omega) hv) (Or.inr (Or.inr ⟨h6n, op, a, b, h3, h8, ha, hb, rfl, rfl, rfl, rfl, rfl, rfl, rfl⟩))
    rcases hs with ⟨hsn, hs1, hs2, hs3⟩ | ⟨hsn, hs1, hs2, hs3⟩
    · rw [if_pos hsn] at f1
      rw [hs2] at f2 f3 f4
      have R0 : (thO ρ j p op n e).1 = 0 := by rw [f4, if_neg]; rintro ⟨q, _⟩; exact nnn (m1.2.1.symm.trans q)
      have FMs := fun n' h1 h2 => FMs n' h1 h2 he
      refine ⟨n, g, c, ⟨m1.to ?_ ?_ ?_ ?_, by omega, FMs n (Nat.le_refl n) hsn, by omega, m5.to ?_ ?_, m6.to ?_ ?_, m7.to ?_ ?_ ?_ ?_⟩, ⟨Nat.le_refl _, ?_, Nat.le_refl _, ?_, ?_, Nat.le_refl _, ?_, ?_, ?_⟩, ⟨?_, ?_, ?_⟩, ⟨?_, ?_, ?_, ?_, ?_⟩⟩
      · rw [f1 _ (by omega) (by omega)]
      · intro i _ _; rw [f1 _ (by omega) (by omega)]
      · rw [r _ (by omega), f3 _ (by omega)]
      · intro i _ _; rw [r _ (by omega), f2 _ (by omega) (by omega)]
      · rw [f1 _ (by omega) (by omega)]
      · rw [f1 _ (by omega) (by omega)]
      · rw [f1 _ (by omega) (by omega)]
      · rw [r _ (by omega), f2 _ (by omega) (by omega)]
      · rw [f1 _ (by omega) (by omega)]
      · rw [f1 _ (by omega) (by omega)]
      · rw [f1 _ (by omega) (by omega)]
      · rw [r _ (by omega), f2 _ (by omega) (by omega)]
      · intro i v _ _ _; rw [f1 _ (by omega) (by omega)]
      · intro i v _ _ _; rw [f1 _ (by omega) (by omega)]
      · intro x _; rw [f1 _ (by omega) (by omega)]
      · intro i _; rw [f1 _ (by omega) (by omega), f1 _ (by omega) (by omega)]; exact ⟨rfl, rfl⟩
      · intro v hv; rw [f1 _ (by omega) (by omega)]; exact hv
      · intro b hb; exact f1 b (by omega) (by omega)
      · intro b hb; rw [r _ (by omega)]; exact f2 b (by omega) (by omega)
      · intro i h1 h2; rw [r _ (by omega)]; exact f3 i h2
      · intro i hi; rw [z_up_o _ _ (Or.inr (by omega)), f2 _ (by omega) (by omega)]
      · intro q; omega
      · intro _
        refine ⟨a, b, _, ha, hb, ha2, hb2, hsn, hw, rfl, Or.inr ⟨?_, ?_, ?_, Or.inl ⟨rfl, rfl, R0⟩⟩⟩
        · rw [f1 _ (by omega) (by omega)]; exact hs3.1
        · rw [f1 _ (by omega) (by omega)]; exact hs3.2.1
        · rw [f1 _ (by omega) (by omega)]; exact hs3.2.2
      · intro q; omega
      · intro q; omega
      · intro q; omega
    · rw [if_neg (by omega)] at f1
      rw [hs2] at f2 f3 f4
      have R0 : (thO ρ j p op n e).1 = -3 - nI n := by
        rw [f4, if_pos]
        refine ⟨by rw [vlN_92, if_pos rfl], ?_⟩
        rw [vlN_r.1, upE, if_pos rfl]
      have FMs := fun n' h1 h2 => FMs n' h1 h2 he
      have m6' := m6.new (k := nI 2) (w := nI op) (a := nI a) (b := nI b) (by omega)
      have m7' := m7.new (k := nI 2) (w := nI op) (a := nI a) (b := nI b) (by omega)
      have f1s : ∀ b', b' ≠ 20 → b' ≠ 22 → b' ≠ 19 → b' ≠ 23 → b' ≠ 24 → flO σ (tr t) p y op n e b' = shr σ (tr t) n (nI op) (nI a) (nI b) b' := fun b' h1 h2 h3 h4 h5 => by rw [f1 b' h1 h2, cmS_o ⟨h3, h4, h5⟩]
      have f1' : ∀ b', b' ≠ 20 → b' ≠ 22 → b' ≠ 19 → b' ≠ 23 → b' ≠ 24 → ¬ (tr t + 1 ≤ b' ∧ b' ≤ tr t + 5) → flO σ (tr t) p y op n e b' = σ b' := fun b h1 h2 h3 h4 h5 h6 => by rw [f1s b h1 h2 h3 h4 h5, shr_o (by omega)]
      have s19 : shr σ (tr t) n (nI op) (nI a) (nI b) 19 = σ 19 := shr_o (by omega)
      have ec19 : tN (shr σ (tr t) n (nI op) (nI a) (nI b) 19 3) = c := by rw [s19, m5.1, tN_nI (by have := m5.2.1; omega)]
      have g19 : flO σ (tr t) p y op n e 19 3 = nI (c + 1) := by rw [f1 _ (by omega) (by omega), cmS_19, ec19]
      have g23 : flO σ (tr t) p y op n e 23 = va_up (σ 23) c 0 := by rw [f1 _ (by omega) (by omega), cmS_23, ec19, shr_o (by omega)]
      have g24 : flO σ (tr t) p y op n e 24 = va_up (σ 24) c (nI n) := by rw [f1 _ (by omega) (by omega), cmS_24, ec19, shr_o (by omega)]
      have v1 : ∀ i v, 2 ≤ i → i ≤ 5 → v < n → flO σ (tr t) p y op n e (tr t + i) v = σ (tr t + i) v := by
        intro i v h2 h5 hv
        rw [f1s _ (by omega) (by omega) (by omega) (by omega) (by omega)]
        have : i = 2 ∨ i = 3 ∨ i = 4 ∨ i = 5 := by omega
        rcases this with rfl | rfl | rfl | rfl
        · rw [shr_2, upE, if_neg (by omega)]
        · rw [shr_3, upE, if_neg (by omega)]
        · rw [shr_4, upE, if_neg (by omega)]
        · rw [shr_5, upE, if_neg (by omega)]
      refine ⟨n + 1, g, c + 1, ⟨hs3.to ?_ ?_ ?_ ?_, by omega, FMs (n + 1) (by omega) (by omega), by omega, ⟨g19, by have := m5.2.1; omega, ?_⟩, m6'.to ?_ ?_, m7'.to ?_ ?_ ?_ ?_⟩, ⟨by omega, v1, Nat.le_refl _, ?_, ?_, by omega, ?_, ?_, ?_⟩, ⟨?_, ?_, ?_⟩, ⟨?_, ?_, ?_, ?_, ?_⟩⟩
      · rw [f1s _ (by omega) (by omega) (by omega) (by omega) (by omega)]
      · intro i _ _; rw [f1s _ (by omega) (by omega) (by omega) (by omega) (by omega)]
      · rw [r _ (by omega), f3 _ (by omega)]
      · intro i _ _; rw [r _ (by omega), f2 _ (by omega) (by omega)]
      · intro i hi
        rw [g24, upE]
        by_cases hic : i = c
        · rw [if_pos hic]; exact ⟨n, by omega, rfl⟩
        · rw [if_neg hic]; exact m5.2.2 i (by omega)
      · rw [f1' _ (by omega) (by omega) (by omega) (by omega) (by omega) (by omega)]
      · rw [r _ (by omega), f2 _ (by omega) (by omega)]
      · rw [f1' _ (by omega) (by omega) (by omega) (by omega) (by omega) (by omega)]
      · rw [f1' _ (by omega) (by omega) (by omega) (by omega) (by omega) (by omega)]
      · rw [f1' _ (by omega) (by omega) (by omega) (by omega) (by omega) (by omega)]
      · rw [r _ (by omega), f2 _ (by omega) (by omega)]
      · intro i v _ _ _; rw [f1' _ (by omega) (by omega) (by omega) (by omega) (by omega) (by omega)]
      · intro x _; rw [f1' _ (by omega) (by omega) (by omega) (by omega) (by omega) (by omega)]
      · intro i _; rw [g23, g24, upE, upE, if_neg (by omega), if_neg (by omega)]; exact ⟨rfl, rfl⟩
      · intro v hv; rw [f1' _ (by omega) (by omega) (by omega) (by omega) (by omega) (by omega)]; exact hv
      · intro b hb; exact f1' b (by omega) (by omega) (by omega) (by omega) (by omega) (by omega)
      · intro b hb; rw [r _ (by omega), f2 b (by omega) (by omega), vlN_o (by omega)]
      · intro i h1 h2; rw [r _ (by omega), f3 i h2, vlN_92, if_neg h1]
      · intro i hi; rw [z_up_o _ _ (Or.inr (by omega)), f2 _ (by omega) (by omega), vlN_o (by omega)]
      · intro q; omega
      · intro _
        refine ⟨a, b, n, ha, hb, ha2, hb2, by omega, by rw [hw, hsn], rfl, Or.inr ⟨?_, ?_, ?_, Or.inr ⟨rfl, rfl, rfl, ?_, ?_, R0⟩⟩⟩
        · rw [f1s _ (by omega) (by omega) (by omega) (by omega) (by omega), shr_2, upE, if_pos rfl]
        · rw [f1s _ (by omega) (by omega) (by omega) (by omega) (by omega), shr_3, upE, if_pos rfl]
        · rw [f1s _ (by omega) (by omega) (by omega) (by omega) (by omega), shr_4, upE, if_pos rfl]
        · rw [g23, upE, if_pos rfl]
        · rw [g24, upE, if_pos rfl]
      · intro q; omega
      · intro q; omega
      · intro q; omega
end
