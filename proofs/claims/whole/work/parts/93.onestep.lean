/-! PART 93: one step of both -/
section
variable {σ ρ : Nat → Nat → Int32} {n e tc a : Nat}
theorem LIV.to {σ' ρ' : Nat → Nat → Int32} (h : LIV σ ρ n e a) (h0 : σ' 0 = σ 0) (h2 : σ' 2 = σ 2) (h3 : σ' 3 = σ 3) (h6 : σ' 6 = σ 6) (h7 : ρ' 92 7 = ρ 92 7) : LIV σ' ρ' n e a := by
  unfold LIV at h ⊢
  rw [h0, (cd_eq h2 h3).1, (cd_eq h2 h3).2, h6, h7]
  exact h
/-- a recording that is not full -/
def RON (σ ρ : Nat → Nat → Int32) (n e tc : Nat) : Prop := ∃ (p g : Nat) (k op : Nat → Nat) (Lr Sr : Nat → Nat → Int32), p < n ∧ σ 16 2 = nI p ∧ ρ 92 15 = nI p ∧ Rch n (opc σ) (jmc σ) p 0 ∧ tc < 4 ∧ g < 30 ∧ σ 16 3 = nI g ∧ ρ 92 16 = nI g ∧ REC σ ρ g k op ∧ RUN σ g k op Lr Sr ∧ RK σ n g k op ∧ dpt op g = e ∧ (∀ l, l < 6 → Lr g l = σ 7 l) ∧ ∀ s, s < e → Sr g s = σ 8 s
theorem stage0 (h : REL σ ρ n e tc) (hl : LIV σ ρ n e a) : RLL (stF σ) (rrG ρ) n e tc a ∧ ((stF σ 16 2 = -1 ∧ rrG ρ 92 15 = -1) ∨ RON (stF σ) (rrG ρ) n e tc) ∧ (σ 16 2 ≠ -1 → ∃ p, p < 40 ∧ σ 16 2 = nI p) ∧ (ρ 92 15 < 0 ∨ ∃ p, p < 40 ∧ ρ 92 15 = nI p) ∧ stF σ 0 9 = σ 0 9 ∧ (∀ b, 92 ≤ b → stF σ b = σ b) ∧ (∀ b, b < 92 → rrG ρ b = ρ b) ∧ rrG ρ 92 0 = ρ 92 0 := by
  have R := h.rll hl
  have h40 := R.1.1
  rcases h.2.2.2.2.2.2.2.1 with ⟨q1, q2⟩ | ⟨p, hp, q1, q2, q3, q4, g, k, op, Lr, Sr, q5, q6, q7, q8, q9, q10, q11, q12⟩
  · have e1 : stF σ = σ := by unfold stF; rw [if_neg (fun w => w.1 q1)]
    have e2 : rrG ρ = ρ := by unfold rrG; rw [if_neg (fun w => w.1 (by rw [q2]; decide))]
    rw [e1, e2]
    exact ⟨R, Or.inl ⟨q1, q2⟩, fun w => absurd q1 w, Or.inl (by rw [q2]; decide), rfl, fun _ _ => rfl, fun _ _ => rfl, rfl⟩
  · have hg30 := q7.1
    have nm : ¬ nI p = -1 := nI_m1 (by omega)
    have np : ¬ nI p < 0 := nI_pos (by omega)
    by_cases hg : g = 30
    · have e1 : stF σ = guS σ p := by unfold stF; rw [if_pos ⟨by rw [q1]; exact nm, by rw [q5, hg]⟩, q1, tN_nI (by omega)]
      have e2 : rrG ρ = rgu ρ p := by unfold rrG; rw [if_pos ⟨by rw [q2]; exact np, by rw [q6, hg]⟩, q2, tN_nI (by omega)]
      have G := gu_rel R (p := p) (by omega)
      have s0 : ∀ b, b ≠ 14 → b ≠ 16 → guS σ p b = σ b := fun b h1 h2 => by unfold guS; rw [z_up_ne _ _ _ h2, z_up_ne _ _ _ h1]
      have r0 : ∀ b, b ≠ 92 → b ≠ 100 → rgu ρ p b = ρ b := fun b h1 h2 => by unfold rgu; rw [z_up_ne _ _ _ h1, z_up_ne _ _ _ h2]
      rw [e1, e2]
      refine ⟨G.rll (hl.to (s0 0 (by omega) (by omega)) (s0 2 (by omega) (by omega)) (s0 3 (by omega) (by omega)) (s0 6 (by omega) (by omega)) ?_), Or.inl ⟨?_, ?_⟩, fun _ => ⟨p, by omega, q1⟩, Or.inr ⟨p, by omega, q2⟩, by rw [s0 0 (by omega) (by omega)], fun b hb => s0 b (by omega) (by omega), fun b hb => r0 b (by omega) (by omega), by unfold rgu; rw [z_up_o _ _ (by omega), z_up_ne _ _ _ (by omega)]⟩
      · unfold rgu; rw [z_up_o _ _ (by omega), z_up_ne _ _ _ (by omega)]
      · unfold guS; rw [z_up_s]
      · unfold rgu; rw [z_up_s]
    · have e1 : stF σ = σ := by unfold stF; rw [if_neg (fun w => hg (nI_inj (q5.symm.trans w.2) (by omega) (by omega)))]
      have e2 : rrG ρ = ρ := by unfold rrG; rw [if_neg (fun w => hg (nI_inj (q6.symm.trans w.2) (by omega) (by omega)))]
      rw [e1, e2]
      exact ⟨R, Or.inr ⟨p, g, k, op, Lr, Sr, hp, q1, q2, q3, q4, by omega, q5, q6, q7, q8, q9, q10, q11, q12⟩, fun _ => ⟨p, by omega, q1⟩, Or.inr ⟨p, by omega, q2⟩, rfl, fun _ _ => rfl, fun _ _ => rfl, rfl⟩
/-- the contract of execute at a place where the program goes on -/
theorem ex_at {d : Nat} {τ : Nat → Nat → Int64} (h : RLL σ ρ n e tc a) (hr : σ 16 2 = -1 ∨ ∃ p, p < 40 ∧ σ 16 2 = nI p) : z_MV M_X10_execute (d + 3) 0 0 [.ref 0, .int (σ 2 a), .int (σ 3 a)] (124, z_r0, σ, τ) (some (.int (exO σ a (opc σ a) e).1)) (124, z_r0, (exO σ a (opc σ a) e).2, τ) := by
  obtain ⟨h1, h2, h3, h4, h5, h6, h7, h8, h9⟩ := h
  obtain ⟨han, hok⟩ := h8.good
  obtain ⟨o1, o2, o3, o4, o5, o6⟩ := h1.2.2.2 a han
  exact sp_exO h8.2.2.2.1 o2 o1 h3.1 h3.2.2.1 hok.1 hok.2 o5 h4.e30 hr
theorem ds_at (h : RLL σ ρ n e tc a) : dsOK ρ a ∧ (ρ 93 a = nI 14 → ∃ e', e' < 8 ∧ ρ 92 9 = nI (e' + 1)) := by
  obtain ⟨h1, h2, h3, h4, h5, h6, h7, h8, h9⟩ := h
  obtain ⟨han, hok⟩ := h8.good
  have h40 := h1.1
  obtain ⟨o1, o2, o3, o4, o5, o6⟩ := h1.2.2.2 a han
  have h6e := h3.2.2.1
  refine ⟨⟨by omega, opc σ a, e, by rw [o3]; exact o2, o1, h3.2.1, hok.1, h3.2.2.1, hok.2, fun q => ⟨_, (o5 q).1, by rw [o4]; exact (o5 q).2⟩⟩, fun q => ?_⟩
  have h14 : opc σ a = 14 := nI_inj ((o3.trans o2).symm.trans q) (by omega) (by omega)
  have := hok.1
  rw [h14] at this
  have : (1 : Nat) ≤ e := this
  exact ⟨e - 1, by omega, by rw [h3.2.1, show e - 1 + 1 = e by omega]⟩
theorem ex_09 (ho : opc σ a < 16) : (exO σ a (opc σ a) e).2 0 9 = σ 0 9 := by
  by_cases h15 : opc σ a = 15
  · rw [h15, ex_15]
    unfold hlS
    by_cases q : z_up σ 6 3 (nI (a + 1)) 16 2 = -1
    · rw [if_pos q, z_up_o _ _ (by omega), z_up_ne _ _ _ (by omega)]
    · rw [if_neg q]; unfold guS; rw [z_up_ne _ _ _ (by omega), z_up_ne _ _ _ (by omega), z_up_o _ _ (by omega), z_up_ne _ _ _ (by omega)]
  · rw [ex_ne15 (by omega) (by omega)]
theorem inT_09 {s : Nat → Nat → Int32} : inT s 0 9 = s 0 9 := by unfold inT; rw [z_up_o _ _ (by omega), z_up_ne _ _ _ (by omega)]
theorem inT_hi {s : Nat → Nat → Int32} {b : Nat} (hb : b ≠ 0) (h : b ≠ 11) : inT s b = s b := by unfold inT; rw [z_up_ne _ _ _ hb, z_up_ne _ _ _ h]
theorem cjS_c {s : Nat → Nat → Int32} {p : Nat} (h : s 16 2 = -1) : (cjS s p 16 2 = -1 ∨ cjS s p 16 3 = 0) ∧ cjS s p 0 = s 0 ∧ ∀ b, 92 ≤ b → cjS s p b = s b := by
  unfold cjS
  by_cases h1 : s 14 p = 0
  · rw [if_neg (fun q => q h1)]
    by_cases h2 : nI 3 ≤ s 13 p + 1
    · rw [if_neg (fun q => q h2)]
      by_cases h3 : s 6 2 = 0 ∧ ¬ nI 4 ≤ s 0 8
      · rw [if_pos h3]
        refine ⟨Or.inr (by rw [z_up_s]), ?_, fun b hb => ?_⟩
        · rw [z_up_ne _ _ _ (by omega), z_up_ne _ _ _ (by omega), z_up_ne _ _ _ (by omega)]
        · rw [z_up_ne _ _ _ (by omega), z_up_ne _ _ _ (by omega), z_up_ne _ _ _ (by omega)]
      · rw [if_neg h3]
        refine ⟨Or.inl ?_, ?_, fun b hb => ?_⟩
        · rw [z_up_ne _ _ _ (by omega), z_up_ne _ _ _ (by omega)]; exact h
        · rw [z_up_ne _ _ _ (by omega), z_up_ne _ _ _ (by omega)]
        · rw [z_up_ne _ _ _ (by omega), z_up_ne _ _ _ (by omega)]
    · rw [if_pos h2]
      refine ⟨Or.inl ?_, ?_, fun b hb => ?_⟩
      · rw [z_up_ne _ _ _ (by omega)]; exact h
      · rw [z_up_ne _ _ _ (by omega)]
      · rw [z_up_ne _ _ _ (by omega)]
  · rw [if_pos h1]
    exact ⟨Or.inl h, rfl, fun _ _ => rfl⟩
theorem htS_lo {r : Nat → Nat → Int32} {p b : Nat} (hb : b < 92) : htS r p b = r b := by
  unfold htS
  by_cases h1 : r 92 6 = 0 ∨ ¬ r 100 p = 0 ∨ ¬ r 92 15 < 0
  · rw [if_pos h1]
  · rw [if_neg h1]
    by_cases h2 : nI 3 ≤ r 99 p + 1
    · rw [if_neg (fun q => q h2)]
      by_cases h3 : r 92 19 = nI 4 ∨ ¬ r 92 9 ≤ 0
      · rw [if_pos h3, z_up_ne _ _ _ (by omega), z_up_ne _ _ _ (by omega)]
      · rw [if_neg h3, z_up_ne _ _ _ (by omega), z_up_ne _ _ _ (by omega), z_up_ne _ _ _ (by omega)]
    · rw [if_pos h2, z_up_ne _ _ _ (by omega)]
theorem riA_0 {r : Nat → Nat → Int32} {k : Nat} : riA r k 92 0 = r 92 0 := by
  unfold riA riT
  rw [z_up_o _ _ (by omega), z_up_o _ _ (by omega), z_up_o _ _ (by omega), dsS_92 (by omega)]
theorem htS_0 {r : Nat → Nat → Int32} {p : Nat} : htS r p 92 0 = r 92 0 := by
  unfold htS
  by_cases h1 : r 92 6 = 0 ∨ ¬ r 100 p = 0 ∨ ¬ r 92 15 < 0
  · rw [if_pos h1]
  · rw [if_neg h1]
    by_cases h2 : nI 3 ≤ r 99 p + 1
    · rw [if_neg (fun q => q h2)]
      by_cases h3 : r 92 19 = nI 4 ∨ ¬ r 92 9 ≤ 0
      · rw [if_pos h3, z_up_ne _ _ _ (by omega), z_up_ne _ _ _ (by omega)]
      · rw [if_neg h3, z_up_o _ _ (by omega), z_up_o _ _ (by omega), z_up_ne _ _ _ (by omega)]
    · rw [if_pos h2, z_up_ne _ _ _ (by omega)]
theorem riN_0 {r : Nat → Nat → Int32} {k g : Nat} : riN r k g 92 0 = r 92 0 := by
  unfold riN riT
  rw [z_up_o _ _ (by omega), z_up_ne _ _ _ (by omega), z_up_ne _ _ _ (by omega), z_up_o _ _ (by omega), z_up_o _ _ (by omega), dsS_92 (by omega)]
theorem riA_lo {r : Nat → Nat → Int32} {k b : Nat} (hb : b < 92) : riA r k b = r b := by
  unfold riA riT
  rw [z_up_ne _ _ _ (by omega), z_up_ne _ _ _ (by omega), z_up_ne _ _ _ (by omega), dsS_ne (by omega)]
theorem riN_lo {r : Nat → Nat → Int32} {k g b : Nat} (hb : b < 92) : riN r k g b = r b := by
  unfold riN riT
  rw [z_up_ne _ _ _ (by omega), z_up_ne _ _ _ (by omega), z_up_ne _ _ _ (by omega), z_up_ne _ _ _ (by omega), z_up_ne _ _ _ (by omega), dsS_ne (by omega)]
end
/-- the class's step as a function: interpreted, then perhaps a trace kept; or a turn -/
def cM (s : Nat → Nat → Int32) (a e : Nat) : Nat → Nat → Int32 :=
  if ¬ (exO s a (opc s a) e).2 16 2 = -1 then ntS (inT (exO s a (opc s a) e).2) (tN ((exO s a (opc s a) e).2 16 3)) a (exO s a (opc s a) e).1
  else if (exO s a (opc s a) e).2 0 11 = 0 ∨ (exO s a (opc s a) e).1 = 0 ∨ ¬ (exO s a (opc s a) e).2 6 3 ≤ nI a then inT (exO s a (opc s a) e).2
  else cjS (inT (exO s a (opc s a) e).2) (tN ((exO s a (opc s a) e).2 6 3))
def cK (s : Nat → Nat → Int32) : Nat → Nat → Int32 := if s 16 2 ≠ -1 ∧ ¬ s 16 3 ≤ 0 ∧ s 6 3 = s 16 2 then ktS (mkZ s (tN (s 0 8)) (tN (s 16 3))) (tN (s 0 8)) (tN (s 16 2)) else s
def cT (s : Nat → Nat → Int32) (t : Nat) : Nat → Nat → Int32 := ttS s t (tN (s (tr t) 4)) (tN (s (tr t) 9))
def cN (σ : Nat → Nat → Int32) : Nat → Nat → Int32 :=
  if stF σ 16 2 ≠ -1 ∨ stF σ 15 (tN (stF σ 6 3)) = -1 then cK (cM (stF σ) (tN (stF σ 6 3)) (tN (stF σ 6 2))) else cT (stF σ) (tN (stF σ 15 (tN (stF σ 6 3))))
/-- what a step of both gives -/
def STEP (σ ρ : Nat → Nat → Int32) (n : Nat) : Prop := ∃ (ρ' : Nat → Nat → Int32) (e' tc' : Nat), (∀ (d : Nat) (τ : Nat → Nat → Int64), z_MV M_X10_step (d + 5) 0 0 [.ref 0] (124, z_r0, σ, τ) none (124, z_r0, cN σ, τ)) ∧ (∀ (d : Nat) (τ : Nat → Nat → Int64), rrB d τ ρ ρ') ∧ REL (cN σ) ρ' n e' tc' ∧ cN σ 0 9 = σ 0 9 ∧ (∀ b, 92 ≤ b → cN σ b = σ b) ∧ (∀ b, b < 92 → ρ' b = ρ b) ∧ ρ' 92 0 = ρ 92 0
section
variable {σ ρ : Nat → Nat → Int32} {n e tc a : Nat}
/-- both interpret, and no trace is kept by the class -/
theorem step_int {σ' ρ' : Nat → Nat → Int32} {e' tc' : Nat} (h : REL σ ρ n e tc) (hl : LIV σ ρ n e a) (hM : cM (stF σ) a e = σ') (hI : stF σ 16 2 ≠ -1 ∨ stF σ 15 a = -1) (hC : ∀ (d : Nat) (τ : Nat → Nat → Int64), z_MV M_X10_interpret (d + 4) 0 0 [.ref 0] (124, z_r0, stF σ, τ) none (124, z_r0, σ', τ)) (hK : ¬ (σ' 16 2 ≠ -1 ∧ ¬ σ' 16 3 ≤ 0 ∧ σ' 6 3 = σ' 16 2)) (hF : ∀ (d : Nat) (τ : Nat → Nat → Int64), z_MV M_X11_interpret (d + 4) 0 0 [.ref 92] (124, z_r0, rrG ρ, τ) none (124, z_r0, ρ', τ)) (hR : REL σ' ρ' n e' tc') (h09 : σ' 0 9 = σ 0 9) (hs : ∀ b, 92 ≤ b → σ' b = σ b) (hr : ∀ b, b < 92 → ρ' b = ρ b) (hr0 : ρ' 92 0 = rrG ρ 92 0) : STEP σ ρ n := by
  obtain ⟨R, Q, f1, f2, f3, f4, f5, f6⟩ := stage0 h hl
  obtain ⟨han, _⟩ := hl.good
  have h40 := h.1.1
  have hN : cN σ = σ' := by
    have e1 : tN (stF σ 6 3) = a := by rw [R.2.2.2.2.2.2.2.1.2.2.2.1, tN_nI (by omega)]
    have e2 : tN (stF σ 6 2) = e := by rw [R.2.2.1.1, tN_nI (by have := R.2.2.1.2.2.1; omega)]
    unfold cN
    rw [e1, e2, if_pos hI, hM]
    unfold cK
    rw [if_neg hK]
  unfold STEP
  rw [hN]
  refine ⟨ρ', e', tc', fun d τ => ?_, fun d τ => ?_, hR, h09, hs, hr, hr0.trans f6⟩
  · exact sp_step f1 R.2.2.2.2.2.2.2.1.2.2.2.1 (by omega) (fun _ => hC d τ) (fun w => absurd hI w) (fun w => absurd w hK) (fun _ => rfl)
  · obtain ⟨t4, t1, t2, _⟩ := h.2.2.2.2.2.2.1
    refine ⟨f2, tc, t4, t2, Or.inr ⟨fun w => ?_, hF d τ⟩⟩
    obtain ⟨p1, p2, p3⟩ := R.2.2.2.2.2.1 a (by omega)
    rw [hl.2.2.2.2.1, ← p3]
    rcases hI with q | q
    · rcases Q with ⟨q1, _⟩ | ⟨p, g, _, _, _, _, hp, _, q2, _⟩
      · exact absurd q1 q
      · rw [q2] at w; exact absurd w (nI_pos (by omega))
    · rw [q]; decide
theorem step_off (h : REL σ ρ n e tc) (hl : LIV σ ρ n e a) (h16 : stF σ 16 2 = -1) (h15 : rrG ρ 92 15 = -1) : STEP σ ρ n := by
  obtain ⟨R, _, f1, f2, f3, f4, f5, f6⟩ := stage0 h hl
  obtain ⟨han, hok⟩ := hl.good
  have h40 := h.1.1
  obtain ⟨t4, t1, t2, _⟩ := h.2.2.2.2.2.2.1
  have L := R.2.2.2.2.2.2.2.1
  obtain ⟨p1, p2, p3⟩ := R.2.2.2.2.2.1 a (by omega)
  have hrec : stF σ 16 2 = -1 ∨ ∃ p, p < 40 ∧ stF σ 16 2 = nI p := Or.inl h16
  have hneg : rrG ρ 92 15 < 0 := by rw [h15]; decide
  rcases tof_at (ρ := rrG ρ) (x := nI a) tc t4 with q | ⟨t, q1, q2, q3⟩
  · -- interpreted
    have hI : stF σ 16 2 ≠ -1 ∨ stF σ 15 a = -1 := Or.inr (by rw [p3]; exact q)
    obtain ⟨o1, o2, o3, o4, o5, o6⟩ := R.1.2.2.2 a han
    obtain ⟨dk1, dk2⟩ := ds_at R
    by_cases o15 : opc (stF σ) a = 15
    · -- HALT
      have X : (exO (stF σ) a (opc (stF σ) a) e).1 = 0 := by rw [ex_r o1]; exact b2i_f (by omega)
      have x16 : (exO (stF σ) a (opc (stF σ) a) e).2 16 2 = -1 := by
        rw [o15, ex_15]
        unfold hlS
        rw [if_pos (by rw [z_up_ne _ _ _ (by omega)]; exact h16), z_up_ne _ _ _ (by omega), z_up_ne _ _ _ (by omega)]; exact h16
      have eD := ds15 R.1 R.2.2.1 han o15
      refine step_int (σ' := inT (exO (stF σ) a (opc (stF σ) a) e).2) (ρ' := riA (rrG ρ) a) h hl (by unfold cM; rw [if_neg (fun w => w x16), if_pos (Or.inr (Or.inl X))]) hI (fun d τ => ?_) ?_ (fun d τ => ?_) (halt_no R o15 h16 h15) ?_ (fun b hb => ?_) (fun b hb => ?_) riA_0
      · have hx := ex_at (d := d) (τ := τ) R hrec
        rw [X] at hx
        exact sp_int_no L.2.2.2.1 (by omega) hx x16 (Or.inr (Or.inl rfl))
      · rw [inT_hi (by omega) (by omega), x16]; exact fun w => w.1 rfl
      · refine sp_ri_no (d := d + 1) L.2.2.2.2.1 dk1 dk2 hneg (Or.inl ?_)
        unfold tkn
        refine b2i_f ?_
        rw [o3, o2, o15]
        exact fun w => w.elim (fun w => absurd (nI_inj w (by omega) (by omega)) (by omega)) (fun w => absurd (nI_inj w.1 (by omega) (by omega)) (by omega))
      · rw [inT_09, ex_09 o1, f3]
      · rw [inT_hi (by omega) (by omega), ex_ne o1 (by omega), f4 b hb]
      · rw [riA_lo hb, f5 b hb]
    · obtain ⟨eD, eT, a', C⟩ := core R.1 R.2.2.1 R.2.2.2.1 R.2.2.2.2.1 L (show opc (stF σ) a < 15 by omega)
      have hCR := cor_rll R C
      have La := hCR.2.2.2.2.2.2.2.1
      have ha'n := La.good.1
      have hS16 : inT (exO (stF σ) a (opc (stF σ) a) e).2 16 2 = -1 := by rw [C.2.2.2.2.2.2.2.2.2.1 16 (by omega)]; exact h16
      have hR15 : riA (rrG ρ) a 92 15 = -1 := by rw [C.2.2.2.2.2.2.2.2.2.2.2.2.1 15 (by omega) (by omega) (by omega) (by omega) (by omega)]; exact h15
      have x16 : (exO (stF σ) a (opc (stF σ) a) e).2 16 2 = -1 := (congrFun (inT_hi (b := 16) (by omega) (by omega)) 2).symm.trans hS16
      have x63 : (exO (stF σ) a (opc (stF σ) a) e).2 6 3 = nI a' := (congrFun (inT_hi (b := 6) (by omega) (by omega)) 3).symm.trans C.2.2.2.2.2.2.1
      have x011 : (exO (stF σ) a (opc (stF σ) a) e).2 0 11 = stF σ 0 11 := by rw [ex_ne15 (by omega) (by omega)]
      have d1 : (dsS (rrG ρ) a).1 = nI a' := by have := C.2.2.2.2.2.2.2.1; unfold riA at this; rw [z_up_s] at this; exact this
      have j01 : (exO (stF σ) a (opc (stF σ) a) e).1 = 0 ∨ (exO (stF σ) a (opc (stF σ) a) e).1 = 1 := by rw [ex_r o1]; exact b2i_01 _
      have hiS : ∀ b, 92 ≤ b → inT (exO (stF σ) a (opc (stF σ) a) e).2 b = σ b := fun b hb => by rw [inT_hi (by omega) (by omega), ex_ne o1 (by omega), f4 b hb]
      have h09 : inT (exO (stF σ) a (opc (stF σ) a) e).2 0 9 = σ 0 9 := by rw [inT_09, ex_09 o1, f3]
      by_cases hj : (exO (stF σ) a (opc (stF σ) a) e).1 = 1 ∧ a' ≤ a
      · by_cases hti : stF σ 0 11 = 0
        · -- no tier
          refine step_int h hl (by unfold cM; rw [if_neg (fun w => w x16), if_pos (Or.inl (by rw [x011]; exact hti))]) hI (fun d τ => sp_int_no L.2.2.2.1 (by omega) (ex_at (d := d) (τ := τ) R hrec) x16 (Or.inl (by rw [x011]; exact hti))) ?_ (fun d τ => ?_) (int_no R C h16 h15) h09 hiS (fun b hb => by rw [riA_lo hb, f5 b hb]) riA_0
          · rw [hS16]; exact fun w => w.1 rfl
          · have z := sp_ri_hot (d := d + 1) (τ := τ) L.2.2.2.2.1 dk1 dk2 hneg (by rw [eT]; exact hj.1) d1 hj.2
            have e6 : riA (rrG ρ) a 92 6 = 0 := by rw [C.2.2.2.2.2.2.2.2.2.2.2.2.1 6 (by omega) (by omega) (by omega) (by omega) (by omega), R.2.1.2.2]; exact hti
            have : htS (riA (rrG ρ) a) a' = riA (rrG ρ) a := by unfold htS; rw [if_pos (Or.inl e6)]
            rw [this] at z
            exact z
        · -- counted
          have cc := cjS_c (p := a') hS16
          have hnn : ¬ ((exO (stF σ) a (opc (stF σ) a) e).2 0 11 = 0 ∨ (exO (stF σ) a (opc (stF σ) a) e).1 = 0 ∨ ¬ (exO (stF σ) a (opc (stF σ) a) e).2 6 3 ≤ nI a) := by
            rw [x011, x63, hj.1]
            exact fun w => w.elim hti (fun w => w.elim (fun w => absurd w (by decide)) (fun w => w (nI_le hj.2 (by omega))))
          refine step_int h hl (by unfold cM; rw [if_neg (fun w => w x16), if_neg hnn, x63, tN_nI (by omega)]) hI (fun d τ => sp_int_hot L.2.2.2.1 (by omega) (ex_at (d := d) (τ := τ) R hrec) x16 (by rw [x011]; exact hti) (by rw [hj.1]; decide) x63 hj.2) ?_ (fun d τ => sp_ri_hot (d := d + 1) (τ := τ) L.2.2.2.2.1 dk1 dk2 hneg (by rw [eT]; exact hj.1) d1 hj.2) (hot_rel hCR hS16 hR15 ?_) ?_ (fun b hb => by rw [cc.2.2 b hb, hiS b hb]) (fun b hb => by rw [htS_lo hb, riA_lo hb, f5 b hb]) (by rw [htS_0, riA_0])
          · rintro ⟨w1, w2, _⟩
            rcases cc.1 with z | z
            · exact w1 z
            · exact w2 (by rw [z]; decide)
          · rw [C.2.2.2.2.2.2.2.2.2.2.1 11 (by omega)]; exact hti
          · rw [cc.2.1]; exact h09
      · have hno : (exO (stF σ) a (opc (stF σ) a) e).1 = 0 ∨ ¬ (exO (stF σ) a (opc (stF σ) a) e).2 6 3 ≤ nI a := by
          rcases j01 with w | w
          · exact Or.inl w
          · exact Or.inr (by rw [x63]; exact nI_ge (Nat.lt_of_not_le fun z => hj ⟨w, z⟩) (by omega))
        refine step_int h hl (by unfold cM; rw [if_neg (fun w => w x16), if_pos (Or.inr hno)]) hI (fun d τ => sp_int_no L.2.2.2.1 (by omega) (ex_at (d := d) (τ := τ) R hrec) x16 (Or.inr hno)) ?_ (fun d τ => sp_ri_no (d := d + 1) (τ := τ) L.2.2.2.2.1 dk1 dk2 hneg ?_) (int_no R C h16 h15) h09 hiS (fun b hb => by rw [riA_lo hb, f5 b hb]) riA_0
        · rw [hS16]; exact fun w => w.1 rfl
        · rcases j01 with w | w
          · exact Or.inl (by rw [eT]; exact w)
          · exact Or.inr (by rw [d1]; exact nI_ge (Nat.lt_of_not_le fun z => hj ⟨w, z⟩) (by omega))
  · -- a turn
    obtain ⟨hs, bs, len, e', g1, g2, g3, g4, g5, g6, g7, ⟨I, g8, g9⟩, g10, g11, g12, g13, g14, g15⟩ := turn_rel R q1 q3 h16 h15
    have e15 : stF σ 15 a = nI t := by rw [p3]; exact q2
    have hN : cN σ = ttS (stF σ) t hs bs := by
      have e1 : tN (stF σ 6 3) = a := by rw [L.2.2.2.1, tN_nI (by omega)]
      unfold cN
      rw [e1, if_neg, e15, tN_nI (n := t) (by omega)]
      · unfold cT
        rw [g1, g7.2.1, tN_nI (n := hs) (by omega), tN_nI (n := bs) (by omega)]
      · rw [h16, e15]
        exact fun w => w.elim (fun w => w rfl) (nI_m1 (by omega))
    unfold STEP
    rw [hN]
    refine ⟨tnF t len len 0 (tn0 (rrG ρ) t), e', tc, fun d τ => ?_, fun d τ => ?_, g10, by rw [g11, f3], fun b hb => by rw [g13 b hb, f4 b hb], fun b hb => by rw [g14 b hb, f5 b hb], by rw [g15, f6]⟩
    · refine sp_step f1 L.2.2.2.1 (by omega) (fun w => ?_) (fun _ => ?_) (fun w => absurd g12 w.1) (fun _ => rfl)
      · rw [h16, e15] at w
        exact absurd w (fun w => w.elim (fun w => w rfl) (nI_m1 (by omega)))
      · rw [e15]
        exact sp_takeTurn (d := d + 1) (by omega) g1 g2 g6 g3 g7
    · refine ⟨f2, tc, t4, t2, Or.inl ⟨hneg, t, by omega, ?_, sp_turn (d := d + 2) (by omega) g4 g5 g8 g9⟩⟩
      rw [hl.2.2.2.2.1]; exact q2
end
