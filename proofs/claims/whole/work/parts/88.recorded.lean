/-! PART 88: HALT, and a recorded instruction -/
section
variable {σ ρ σ' ρ' s r : Nat → Nat → Int32} {n e tc a : Nat}
theorem halt_rel (h : RLL σ ρ n e tc a) (s1 : ∀ b, ¬ (b = 0 ∨ b = 6 ∨ b = 11 ∨ b = 14 ∨ b = 16) → s b = σ b) (s2 : ∀ i, i ≠ 10 → i ≠ 12 → s 0 i = σ 0 i) (s3 : s 0 10 = 1) (s4 : s 0 12 = -1) (s5 : s 6 2 = σ 6 2) (s6 : s 11 0 = σ 11 0 + 1) (s7 : ∀ i, i ≠ 0 → s 11 i = σ 11 i) (s8 : s 16 2 = -1)
    (r1 : ∀ b, ¬ (b = 92 ∨ b = 100 ∨ b = 101 ∨ b = 102) → r b = ρ b) (r2 : ∀ i, i ≠ 7 → i ≠ 15 → i ≠ 16 → i ≠ 20 → i ≠ 31 → r 92 i = ρ 92 i) (r3 : r 92 7 = -1) (r4 : r 92 15 = -1) (r5 : r 92 20 = -1) (r6 : r 92 31 = ρ 92 31 + 1) (hp : ∀ i, i < 40 → s 14 i = r 100 i) : REL s r n e tc := by
  obtain ⟨h1, h2, h3, h4, h5, h6, h7, h8, h9⟩ := h
  have e2 : s 2 = σ 2 := s1 2 (by omega)
  have e3 : s 3 = σ 3 := s1 3 (by omega)
  refine ⟨h1.to (by rw [s1 1 (by omega)]) e2 e3 (r2 1 (by omega) (by omega) (by omega) (by omega) (by omega)) (r1 93 (by omega)) (r1 94 (by omega)), ?_, ?_, h4.to (s1 9 (by omega)) (s1 10 (by omega)) (r2 11 (by omega) (by omega) (by omega) (by omega) (by omega)) (r1 98 (by omega)), ?_, PLC.w ?_, ?_, Or.inl ⟨s8, r4⟩, Or.inr (Or.inl ⟨?_, ?_, s3, r3, s8⟩), fun t ht => (h9 t ht).to e2 e3 (fun i hi => s1 _ (by have := @tr_big t i; omega)) (r1 93 (by omega)) (r1 94 (by omega)) (fun b hb => by rw [r1 b (by omega)]) (fun b j h1 h2 _ => by rw [r1 b (by omega)]) (Or.inl ?_)⟩
  · unfold FLG at h2 ⊢; rw [s2 9 (by omega) (by omega), s2 11 (by omega) (by omega), r2 5 (by omega) (by omega) (by omega) (by omega) (by omega), r2 6 (by omega) (by omega) (by omega) (by omega) (by omega)]; exact h2
  · unfold FR at h3 ⊢; rw [s5, s1 7 (by omega), s1 8 (by omega), r2 9 (by omega) (by omega) (by omega) (by omega) (by omega), r1 96 (by omega), r1 97 (by omega)]; exact h3
  · unfold TAL at h5 ⊢; rw [s6, s7 1 (by omega), s7 2 (by omega), s7 3 (by omega), r6, r2 32 (by omega) (by omega) (by omega) (by omega) (by omega), r2 33 (by omega) (by omega) (by omega) (by omega) (by omega), r2 34 (by omega) (by omega) (by omega) (by omega) (by omega), h5.1]
    exact ⟨rfl, h5.2⟩
  · intro i hi
    rw [s1 13 (by omega), s1 15 (by omega), r1 99 (by omega), tof_congr (r1 103 (by omega))]
    exact ⟨(h6 i hi).1, hp i hi, (h6 i hi).2.2⟩
  · unfold TCN at h7 ⊢; rw [s2 8 (by omega) (by omega), r2 19 (by omega) (by omega) (by omega) (by omega) (by omega), s4, r5]
    exact ⟨h7.1, h7.2.1, h7.2.2.1, rfl, Or.inl rfl⟩
  · rw [s2 9 (by omega) (by omega)]; exact h8.1
  · rw [(cd_eq e2 e3).1, (cd_eq e2 e3).2]; exact h8.2.1
  · rw [s4]; have := h7.1; exact fun q => nI_m1 (n := t) (by omega) q.symm
theorem ds15 (hc : CD σ ρ n) (hf : FR σ ρ e) (ha : a < n) (h15 : opc σ a = 15) : dsS ρ a = (-1, ρ) := by
  obtain ⟨o1, o2, o3, _⟩ := hc.2.2.2 a ha
  unfold dsS
  have : tN (ρ 93 a) = 15 := by rw [o3]; exact h15
  rw [this]
  rfl
/-- HALT, nothing recorded -/
theorem halt_no (h : RLL σ ρ n e tc a) (h15 : opc σ a = 15) (h16 : σ 16 2 = -1) (hr : ρ 92 15 = -1) : REL (inT (exO σ a (opc σ a) e).2) (riA ρ a) n e tc := by
  have han := h.2.2.2.2.2.2.2.1.good.1
  have eD := ds15 h.1 h.2.2.1 han h15
  rw [h15, ex_15]
  have hx : hlS (z_up σ 6 3 (nI (a + 1))) = z_up (z_up σ 6 3 (nI (a + 1))) 0 10 1 := by
    unfold hlS
    rw [if_pos (by rw [z_up_ne _ _ _ (by omega)]; exact h16)]
  rw [hx]
  refine halt_rel h (fun b hb => ?_) (fun i i1 i2 => ?_) ?_ ?_ ?_ ?_ (fun i hi => ?_) ?_ (fun b hb => ?_) (fun i i1 i2 i3 i4 i5 => ?_) ?_ ?_ ?_ ?_ (fun i hi => ?_)
  · unfold inT; rw [z_up_ne _ _ _ (by omega), z_up_ne _ _ _ (by omega), z_up_ne _ _ _ (by omega), z_up_ne _ _ _ (by omega)]
  · unfold inT; rw [z_up_o _ _ (Or.inr i2), z_up_ne _ _ _ (by omega), z_up_o _ _ (Or.inr i1), z_up_ne _ _ _ (by omega)]
  · unfold inT; rw [z_up_o _ _ (by omega), z_up_ne _ _ _ (by omega), z_up_s]
  · unfold inT; rw [z_up_s]
  · unfold inT; rw [z_up_ne _ _ _ (by omega), z_up_ne _ _ _ (by omega), z_up_ne _ _ _ (by omega), z_up_o _ _ (by omega)]
  · unfold inT; rw [z_up_ne _ _ _ (by omega), z_up_s, z_up_ne _ _ _ (by omega), z_up_ne _ _ _ (by omega)]
  · unfold inT; rw [z_up_ne _ _ _ (by omega), z_up_o _ _ (Or.inr hi), z_up_ne _ _ _ (by omega), z_up_ne _ _ _ (by omega)]
  · unfold inT; rw [z_up_ne _ _ _ (by omega), z_up_ne _ _ _ (by omega), z_up_ne _ _ _ (by omega), z_up_ne _ _ _ (by omega)]; exact h16
  · unfold riA riT; rw [eD, z_up_ne _ _ _ (by omega), z_up_ne _ _ _ (by omega), z_up_ne _ _ _ (by omega)]
  · unfold riA riT; rw [eD, z_up_o _ _ (Or.inr i1), z_up_o _ _ (Or.inr i4), z_up_o _ _ (Or.inr i5)]
  · unfold riA; rw [z_up_s, eD]
  · unfold riA riT; rw [eD, z_up_o _ _ (by omega), z_up_o _ _ (by omega), z_up_o _ _ (by omega)]; exact hr
  · unfold riA riT; rw [z_up_o _ _ (by omega), z_up_s]
  · unfold riA riT; rw [z_up_o _ _ (by omega), z_up_o _ _ (by omega), z_up_s]
  · unfold inT riA riT
    rw [eD, z_up_ne _ _ _ (by omega), z_up_ne _ _ _ (by omega), z_up_ne _ _ _ (by omega), z_up_ne _ _ _ (by omega), z_up_ne _ _ _ (by omega), z_up_ne _ _ _ (by omega), z_up_ne _ _ _ (by omega)]
    exact (h.2.2.2.2.2.1 i hi).2.1
/-- HALT while recording -/
theorem halt_rec {p g : Nat} (h : RLL σ ρ n e tc a) (h15 : opc σ a = 15) (h16 : σ 16 2 = nI p) (hp : p < 40) : REL (inT (exO σ a (opc σ a) e).2) (z_up (rgu (riN ρ a g) p) 92 7 (-1)) n e tc := by
  have han := h.2.2.2.2.2.2.2.1.good.1
  have eD := ds15 h.1 h.2.2.1 han h15
  rw [h15, ex_15]
  have hx : hlS (z_up σ 6 3 (nI (a + 1))) = z_up (z_up (z_up (z_up σ 6 3 (nI (a + 1))) 0 10 1) 14 p (nI 2)) 16 2 (-1) := by
    have e16 : z_up σ 6 3 (nI (a + 1)) 16 2 = nI p := by rw [z_up_ne _ _ _ (by omega)]; exact h16
    unfold hlS
    rw [if_neg (by rw [e16]; exact nI_m1 (by omega)), e16, tN_nI (by omega)]
    rfl
  rw [hx]
  unfold inT rgu riN riT
  rw [eD]
  refine halt_rel h (fun b hb => ?_) (fun i i1 i2 => ?_) ?_ ?_ ?_ ?_ (fun i hi => ?_) ?_ (fun b hb => ?_) (fun i i1 i2 i3 i4 i5 => ?_) ?_ ?_ ?_ ?_ (fun i hi => ?_)
  · rw [z_up_ne _ _ _ (by omega), z_up_ne _ _ _ (by omega), z_up_ne _ _ _ (by omega), z_up_ne _ _ _ (by omega), z_up_ne _ _ _ (by omega), z_up_ne _ _ _ (by omega)]
  · rw [z_up_o _ _ (Or.inr i2), z_up_ne _ _ _ (by omega), z_up_ne _ _ _ (by omega), z_up_ne _ _ _ (by omega), z_up_o _ _ (Or.inr i1), z_up_ne _ _ _ (by omega)]
  · rw [z_up_o _ _ (by omega), z_up_ne _ _ _ (by omega), z_up_ne _ _ _ (by omega), z_up_ne _ _ _ (by omega), z_up_s]
  · rw [z_up_s]
  · rw [z_up_ne _ _ _ (by omega), z_up_ne _ _ _ (by omega), z_up_ne _ _ _ (by omega), z_up_ne _ _ _ (by omega), z_up_ne _ _ _ (by omega), z_up_o _ _ (by omega)]
  · rw [z_up_ne _ _ _ (by omega), z_up_s, z_up_ne _ _ _ (by omega), z_up_ne _ _ _ (by omega), z_up_ne _ _ _ (by omega), z_up_ne _ _ _ (by omega)]
  · rw [z_up_ne _ _ _ (by omega), z_up_o _ _ (Or.inr hi), z_up_ne _ _ _ (by omega), z_up_ne _ _ _ (by omega), z_up_ne _ _ _ (by omega), z_up_ne _ _ _ (by omega)]
  · rw [z_up_ne _ _ _ (by omega), z_up_ne _ _ _ (by omega), z_up_s]
  · rw [z_up_ne _ _ _ (by omega), z_up_ne _ _ _ (by omega), z_up_ne _ _ _ (by omega), z_up_ne _ _ _ (by omega), z_up_ne _ _ _ (by omega), z_up_ne _ _ _ (by omega), z_up_ne _ _ _ (by omega), z_up_ne _ _ _ (by omega)]
  · rw [z_up_o _ _ (Or.inr i1), z_up_o _ _ (Or.inr i2), z_up_ne _ _ _ (by omega), z_up_o _ _ (Or.inr i3), z_up_ne _ _ _ (by omega), z_up_ne _ _ _ (by omega), z_up_o _ _ (Or.inr i4), z_up_o _ _ (Or.inr i5)]
  · rw [z_up_s]
  · rw [z_up_o _ _ (by omega), z_up_s]
  · rw [z_up_o _ _ (by omega), z_up_o _ _ (by omega), z_up_ne _ _ _ (by omega), z_up_o _ _ (by omega), z_up_ne _ _ _ (by omega), z_up_ne _ _ _ (by omega), z_up_s]
  · rw [z_up_o _ _ (by omega), z_up_o _ _ (by omega), z_up_ne _ _ _ (by omega), z_up_o _ _ (by omega), z_up_ne _ _ _ (by omega), z_up_ne _ _ _ (by omega), z_up_o _ _ (by omega), z_up_s]
  · rw [z_up_ne (i := 0) _ _ _ (by omega), z_up_ne (i := 11) _ _ _ (by omega), z_up_ne (i := 16) _ _ _ (by omega), z_up_row (i := 14), z_up_ne (i := 92) _ _ _ (by omega), z_up_ne (i := 92) _ _ _ (by omega), z_up_row (i := 100), upE, upE, z_up_ne (i := 0) _ _ _ (by omega), z_up_ne (i := 6) _ _ _ (by omega), z_up_ne (i := 92) _ _ _ (by omega), z_up_ne (i := 102) _ _ _ (by omega), z_up_ne (i := 101) _ _ _ (by omega), z_up_ne (i := 92) _ _ _ (by omega), z_up_ne (i := 92) _ _ _ (by omega), (h.2.2.2.2.2.1 i hi).2.1]
theorem dpt_congr {op op' : Nat → Nat} : ∀ j, (∀ i, i < j → op' i = op i) → dpt op' j = dpt op j := by
  intro j
  induction j with
  | zero => intro _; rfl
  | succ j ih =>
    intro h
    unfold dpt
    rw [ih (fun i hi => h i (by omega)), h j (by omega)]
theorem stp_congr {op l e e' : Nat} {w w' : Int32} {L S M Q L' S' : Nat → Int32} (h : stp op l w L S e L' S' e') (ht : tk op ≤ e) (hl : op = 1 → l < 6) (hL : ∀ i, i < 6 → M i = L i) (hS : ∀ s, s < e → Q s = S s) (hw : op = 0 ∨ (3 ≤ op ∧ op ≤ 8) → w' = w) (ho : op < 16) : stp op l w' M Q e L' S' e' := by
  have tk1 : op = 2 ∨ op = 9 → 1 ≤ tk op := by rintro (rfl | rfl) <;> decide
  have tk2 : op = 11 → tk op = 2 := by rintro rfl; decide
  have gvw : ¬ (op = 0 ∨ op = 1 ∨ (3 ≤ op ∧ op ≤ 8) ∨ op = 9 ∨ op = 11) → gv op = 0 := by
    intro hn
    have : op = 2 ∨ op = 10 ∨ op = 12 ∨ op = 13 ∨ op = 14 ∨ op = 15 := by omega
    rcases this with rfl | rfl | rfl | rfl | rfl | rfl <;> decide
  refine ⟨h.1, fun i hi => ?_, fun s hs => ?_⟩
  · rw [h.2.1 i hi]
    by_cases hc : op = 2 ∧ i = l
    · rw [if_pos hc, if_pos hc, hS _ (by have := tk1 (Or.inl hc.1); omega)]
    · rw [if_neg hc, if_neg hc, hL i hi]
  · rw [h.2.2 s hs]
    by_cases h1 : s < e - tk op
    · rw [if_pos h1, if_pos h1, hS s (by omega)]
    · rw [if_neg h1, if_neg h1]
      by_cases h2 : op = 1
      · rw [if_pos h2, if_pos h2, hL l (hl h2)]
      · rw [if_neg h2, if_neg h2]
        by_cases h3 : op = 9
        · rw [if_pos h3, if_pos h3, hS _ (by have := tk1 (Or.inr h3); omega)]
        · rw [if_neg h3, if_neg h3]
          by_cases h4 : op = 11
          · have := tk2 h4
            rw [if_pos h4, if_pos h4, hS _ (by omega), hS _ (by omega)]
          · rw [if_neg h4, if_neg h4]
            refine (hw ?_).symm
            have h0 := h.1
            by_cases h6 : op = 0 ∨ op = 1 ∨ (3 ≤ op ∧ op ≤ 8) ∨ op = 9 ∨ op = 11
            · rcases h6 with h6 | h6 | h6 | h6 | h6
              · exact Or.inl h6
              · exact absurd h6 h2
              · exact Or.inr h6
              · exact absurd h6 h3
              · exact absurd h6 h4
            · have := gvw h6; omega
/-- a recorded instruction: the class notes it -/
theorem rec_rel {e' a' p g : Nat} {y : Int32} {k op : Nat → Nat} {Lr Sr : Nat → Nat → Int32} (h : RLL σ ρ n e tc a) (hc : COR σ ρ s r n e a (opc σ a) e' a' y) (he' : e' = e - tk (opc σ a) + gv (opc σ a)) (hy : y = 0 ∨ y = 1) (ho : opc σ a < 15) (hp : p < n) (h16 : σ 16 2 = nI p) (h15 : ρ 92 15 = nI p) (hrp : Rch n (opc σ) (jmc σ) p 0) (ht4 : tc < 4) (hg30 : g < 30) (q2 : REC σ ρ g k op) (q3 : RUN σ g k op Lr Sr) (q4 : RK σ n g k op) (q5 : dpt op g = e) (q6 : ∀ l, l < 6 → Lr g l = σ 7 l) (q7 : ∀ x, x < e → Sr g x = σ 8 x)
    (r1 : ∀ b, ¬ (b = 92 ∨ b = 101 ∨ b = 102) → ρ' b = r b) (r2 : ∀ i, i ≠ 16 → ρ' 92 i = r 92 i) (r3 : ρ' 92 16 = nI (g + 1)) (r4 : ρ' 101 = va_up (ρ 101) g (nI a)) (r5 : ρ' 102 = va_up (ρ 102) g y) : RLL (ntS s g a y) ρ' n e' tc a' ∧ RCD (ntS s g a y) ρ' n e' tc ∧ ntS s g a y 16 3 = nI (g + 1) ∧ ntS s g a y 16 2 = nI p := by
  obtain ⟨han, hok⟩ := h.2.2.2.2.2.2.2.1.good
  have h40 := h.1.1
  have R := cor_rll h hc
  obtain ⟨c1, c2, c3, c4, c5, c6, c7, c8, c9, c10, c11, c12, c13, c14⟩ := hc
  obtain ⟨o1, o2, o3, o4, o5, o6⟩ := h.1.2.2.2 a han
  have n0 : ∀ b, b ≠ 16 → b ≠ 17 → b ≠ 18 → ntS s g a y b = s b := fun b h1 h2 h3 => by unfold ntS; rw [z_up_ne _ _ _ h1, z_up_ne _ _ _ h3, z_up_ne _ _ _ h2]
  have n17 : ntS s g a y 17 = va_up (σ 17) g (nI a) := by unfold ntS; rw [z_up_ne _ _ _ (by omega), z_up_ne _ _ _ (by omega), z_up_row, c10 17 (by omega)]
  have n18 : ntS s g a y 18 = va_up (σ 18) g y := by unfold ntS; rw [z_up_ne _ _ _ (by omega), z_up_row, z_up_ne _ _ _ (by omega), c10 18 (by omega)]
  have n163 : ntS s g a y 16 3 = nI (g + 1) := by unfold ntS; rw [z_up_s]
  have n162 : ntS s g a y 16 2 = nI p := by unfold ntS; rw [z_up_o _ _ (by omega), z_up_ne _ _ _ (by omega), z_up_ne _ _ _ (by omega), c10 16 (by omega)]; exact h16
  have e2 : ntS s g a y 2 = σ 2 := by rw [n0 2 (by omega) (by omega) (by omega), c10 2 (by omega)]
  have e3 : ntS s g a y 3 = σ 3 := by rw [n0 3 (by omega) (by omega) (by omega), c10 3 (by omega)]
  have e93 : ρ' 93 = ρ 93 := by rw [r1 93 (by omega), c12 93 (by omega)]
  have e94 : ρ' 94 = ρ 94 := by rw [r1 94 (by omega), c12 94 (by omega)]
  have R' : RLL (ntS s g a y) ρ' n e' tc a' := R.to (fun b hb => n0 b (by omega) (by omega) (by omega)) (fun b hb => r1 b (by omega)) (fun i i1 i2 => r2 i i2) (by
    intro i hi
    rw [n0 13 (by omega) (by omega) (by omega), n0 14 (by omega) (by omega) (by omega), n0 15 (by omega) (by omega) (by omega), r1 99 (by omega), r1 100 (by omega), tof_congr (r1 103 (by omega))]
    exact R.2.2.2.2.2.1 i hi)
  refine ⟨R', Or.inr ⟨p, hp, n162, ?_, ?_, ht4, ?_⟩, n163, n162⟩
  · rw [r2 15 (by omega), c13 15 (by omega) (by omega) (by omega) (by omega) (by omega)]; exact h15
  · rw [(cd_eq e2 e3).1, (cd_eq e2 e3).2]; exact hrp
  · -- the recording, longer by one
    have kg : ∀ j, j < g → (fun j => if j < g then k j else a) j = k j := fun j hj => if_pos hj
    have og : ∀ j, j < g → (fun j => if j < g then op j else opc σ a) j = op j := fun j hj => if_pos hj
    have dg : ∀ j, j ≤ g → dpt (fun j => if j < g then op j else opc σ a) j = dpt op j := fun j hj => dpt_congr j (fun i hi => if_pos (by omega))
    have gg : ¬ g < g := Nat.lt_irrefl g
    have dg1 : dpt (fun j => if j < g then op j else opc σ a) (g + 1) = e' := by
      show dpt (fun j => if j < g then op j else opc σ a) g - tk (if g < g then op g else opc σ a) + gv (if g < g then op g else opc σ a) = e'
      rw [dg g (Nat.le_refl _), if_neg gg, q5, he']
    refine ⟨g + 1, fun j => if j < g then k j else a, fun j => if j < g then op j else opc σ a, fun j => if j ≤ g then Lr j else s 7, fun j => if j ≤ g then Sr j else s 8, n163, r3, ⟨by omega, fun j hj => ?_⟩, fun j hj => ?_, fun j hj => ?_, dg1, fun l hl => ?_, fun x hx => ?_⟩
    · rw [n17, n18, r4, r5, e2, e3, e93, e94, upE, upE, upE, upE]
      by_cases hjg : j < g
      · rw [kg j hjg, og j hjg, dg j (by omega), if_neg (by omega), if_neg (by omega), if_neg (by omega), if_neg (by omega)]
        exact q2.2 j hjg
      · have : j = g := by omega
        subst this
        rw [dg j (Nat.le_refl _), q5]
        simp only [if_neg gg, if_true]
        exact ⟨by omega, trivial, trivial, hy, trivial, ho, o2, o3.trans o2, o4.symm, o5, hok.1, hok.2⟩
    · rw [e3, n18, upE]
      by_cases hjg : j < g
      · rw [kg j hjg, og j hjg, dg j (by omega), dg (j + 1) (by omega), if_neg (by omega)]
        simp only [if_pos (show j ≤ g by omega), if_pos (show j + 1 ≤ g by omega)]
        exact q3 j hjg
      · have : j = g := by omega
        subst this
        rw [dg j (Nat.le_refl _), dg1, q5]
        simp only [if_neg gg, if_true, if_pos (Nat.le_refl j), if_neg (show ¬ j + 1 ≤ j by omega)]
        rw [← n0 7 (by omega) (by omega) (by omega), ← n0 8 (by omega) (by omega) (by omega)]
        refine ⟨?_, fun q => ?_⟩
        · rw [n0 7 (by omega) (by omega) (by omega), n0 8 (by omega) (by omega) (by omega)]
          refine stp_congr c1 hok.1 (fun q => (o5 (Or.inl q)).1) q6 q7 (fun q => ?_) (by omega)
          unfold wv
          rcases q with q | q
          · rw [if_pos q, if_pos q]
          · have := (tkgv_op q.1 q.2).1
            have := hok.1
            rw [if_neg (by omega), if_neg (by omega), q7 _ (by omega), q7 _ (by omega)]
        · have hp1 : 1 ≤ e := by have := hok.1; rw [q] at this; exact this
          rw [q7 _ (by omega)]; exact c14 q
    · rw [(cd_eq e2 e3).1, (cd_eq e2 e3).2]
      by_cases hjg : j < g
      · rw [kg j hjg, og j hjg, dg j (by omega)]
        exact q4 j hjg
      · have : j = g := by omega
        subst this
        rw [dg j (Nat.le_refl _), q5]
        simp only [if_neg gg]
        exact ⟨han, trivial, h.2.2.2.2.2.2.2.1.2.2.2.2.2⟩
    · simp only [if_neg (show ¬ g + 1 ≤ g by omega)]
      rw [n0 7 (by omega) (by omega) (by omega)]
    · simp only [if_neg (show ¬ g + 1 ≤ g by omega)]
      rw [n0 8 (by omega) (by omega) (by omega)]
end
