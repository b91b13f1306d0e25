/-! PART 94: one step of both, while recording; any number of steps -/
section
variable {σ ρ : Nat → Nat → Int32} {n e tc a : Nat}
theorem riR_rows {r : Nat → Nat → Int32} {k g : Nat} : (∀ b, ¬ (b = 92 ∨ b = 101 ∨ b = 102) → riR r k g b = riA r k b) ∧ (∀ i, i ≠ 16 → riR r k g 92 i = riA r k 92 i) ∧ riR r k g 92 16 = nI (g + 1) ∧ riR r k g 101 = va_up (r 101) g (nI k) ∧ riR r k g 102 = va_up (r 102) g (tkn r k) := by
  have t101 : riT r k 101 = r 101 := by unfold riT; rw [z_up_ne _ _ _ (by omega), z_up_ne _ _ _ (by omega), dsS_ne (by omega)]
  have t102 : riT r k 102 = r 102 := by unfold riT; rw [z_up_ne _ _ _ (by omega), z_up_ne _ _ _ (by omega), dsS_ne (by omega)]
  unfold riR riN riA
  refine ⟨fun b hb => ?_, fun i hi => ?_, ?_, ?_, ?_⟩
  · rw [z_up_ne _ _ _ (by omega), z_up_ne _ _ _ (by omega), z_up_ne _ _ _ (by omega), z_up_ne _ _ _ (by omega), z_up_ne _ _ _ (by omega)]
  · by_cases h7 : i = 7
    · rw [h7, z_up_s, z_up_s]
    · rw [z_up_o _ _ (Or.inr h7), z_up_o _ _ (Or.inr hi), z_up_ne _ _ _ (by omega), z_up_ne _ _ _ (by omega), z_up_o _ _ (Or.inr h7)]
  · rw [z_up_o _ _ (by omega), z_up_s]
  · rw [z_up_ne _ _ _ (by omega), z_up_ne _ _ _ (by omega), z_up_ne _ _ _ (by omega), z_up_row, t101]
  · rw [z_up_ne _ _ _ (by omega), z_up_ne _ _ _ (by omega), z_up_row, z_up_ne _ _ _ (by omega), t102]
theorem riR_lo {r : Nat → Nat → Int32} {k g b : Nat} (hb : b < 92) : riR r k g b = r b := by
  unfold riR
  rw [z_up_ne _ _ _ (by omega), riN_lo hb]
theorem step_on (h : REL σ ρ n e tc) (hl : LIV σ ρ n e a) (hO : RON (stF σ) (rrG ρ) n e tc) : STEP σ ρ n := by
  obtain ⟨R, _, f1, f2, f3, f4, f5, f6⟩ := stage0 h hl
  obtain ⟨han, hok⟩ := hl.good
  have h40 := h.1.1
  obtain ⟨t4, t1, t2, _⟩ := h.2.2.2.2.2.2.1
  have L := R.2.2.2.2.2.2.2.1
  obtain ⟨p, g, k, op, Lr, Sr, hp, h16, h15, hrp, htc4, hg30, h163, h1516, q2, q3, q4, q5, q6, q7⟩ := hO
  obtain ⟨o1, o2, o3, o4, o5, o6⟩ := R.1.2.2.2 a han
  obtain ⟨dk1, dk2⟩ := ds_at R
  have nm : ¬ nI p = -1 := nI_m1 (by omega)
  have hI : stF σ 16 2 ≠ -1 ∨ stF σ 15 a = -1 := Or.inl (by rw [h16]; exact nm)
  have hrec : stF σ 16 2 = -1 ∨ ∃ p, p < 40 ∧ stF σ 16 2 = nI p := Or.inr ⟨p, by omega, h16⟩
  by_cases o15 : opc (stF σ) a = 15
  · -- HALT
    have X : (exO (stF σ) a (opc (stF σ) a) e).1 = 0 := by rw [ex_r o1]; exact b2i_f (by omega)
    have x16 : (exO (stF σ) a (opc (stF σ) a) e).2 16 2 = -1 := by
      rw [o15, ex_15]
      unfold hlS
      rw [if_neg (by rw [z_up_ne _ _ _ (by omega), h16]; exact nm)]
      unfold guS
      rw [z_up_s]
    have eD := ds15 R.1 R.2.2.1 han o15
    refine step_int (σ' := inT (exO (stF σ) a (opc (stF σ) a) e).2) (ρ' := z_up (rgu (riN (rrG ρ) a g) p) 92 7 (-1)) h hl (by unfold cM; rw [if_neg (fun w => w x16), if_pos (Or.inr (Or.inl X))]) hI (fun d τ => ?_) ?_ (fun d τ => ?_) (halt_rec R o15 h16 (by omega)) ?_ (fun b hb => ?_) (fun b hb => ?_) (by rw [z_up_o _ _ (by omega)]; unfold rgu; rw [z_up_o _ _ (by omega), z_up_ne _ _ _ (by omega), riN_0])
    · have hx := ex_at (d := d) (τ := τ) R hrec
      rw [X] at hx
      exact sp_int_no L.2.2.2.1 (by omega) hx x16 (Or.inr (Or.inl rfl))
    · rw [inT_hi (by omega) (by omega), x16]; exact fun w => w.1 rfl
    · exact sp_ri_halt (d := d + 1) L.2.2.2.2.1 dk1 dk2 h15 (by omega) h1516 hg30 (by rw [o3, o2, o15]) (by rw [eD])
    · rw [inT_09, ex_09 o1, f3]
    · rw [inT_hi (by omega) (by omega), ex_ne o1 (by omega), f4 b hb]
    · rw [z_up_ne _ _ _ (by omega)]
      unfold rgu
      rw [z_up_ne _ _ _ (by omega), z_up_ne _ _ _ (by omega), riN_lo hb, f5 b hb]
  · obtain ⟨eD, eT, a', C⟩ := core R.1 R.2.2.1 R.2.2.2.1 R.2.2.2.2.1 L (show opc (stF σ) a < 15 by omega)
    have j01 : (exO (stF σ) a (opc (stF σ) a) e).1 = 0 ∨ (exO (stF σ) a (opc (stF σ) a) e).1 = 1 := by rw [ex_r o1]; exact b2i_01 _
    obtain ⟨w1, w2, w3, w4, w5⟩ := @riR_rows (rrG ρ) a g
    rw [eT] at w5
    obtain ⟨R', hRC, n163, n162⟩ := rec_rel R C rfl j01 (by omega) hp h16 h15 hrp htc4 hg30 q2 q3 q4 q5 q6 q7 w1 w2 w3 w4 w5
    have La := R'.2.2.2.2.2.2.2.1
    have ha'n := La.good.1
    have x162 : (exO (stF σ) a (opc (stF σ) a) e).2 16 2 = nI p := by rw [ex_ne15 (by omega) (by omega)]; exact h16
    have x163 : (exO (stF σ) a (opc (stF σ) a) e).2 16 3 = nI g := by rw [ex_ne15 (by omega) (by omega)]; exact h163
    have d1 : (dsS (rrG ρ) a).1 = nI a' := by have := C.2.2.2.2.2.2.2.1; unfold riA at this; rw [z_up_s] at this; exact this
    have hiS : ∀ b, 92 ≤ b → ntS (inT (exO (stF σ) a (opc (stF σ) a) e).2) g a (exO (stF σ) a (opc (stF σ) a) e).1 b = σ b := fun b hb => by
      unfold ntS
      rw [z_up_ne _ _ _ (by omega), z_up_ne _ _ _ (by omega), z_up_ne _ _ _ (by omega), inT_hi (by omega) (by omega), ex_ne o1 (by omega), f4 b hb]
    have h09 : ntS (inT (exO (stF σ) a (opc (stF σ) a) e).2) g a (exO (stF σ) a (opc (stF σ) a) e).1 0 9 = σ 0 9 := by
      unfold ntS
      rw [z_up_ne _ _ _ (by omega), z_up_ne _ _ _ (by omega), z_up_ne _ _ _ (by omega), inT_09, ex_09 o1, f3]
    have hC : ∀ (d : Nat) (τ : Nat → Nat → Int64), z_MV M_X10_interpret (d + 4) 0 0 [.ref 0] (124, z_r0, stF σ, τ) none (124, z_r0, ntS (inT (exO (stF σ) a (opc (stF σ) a) e).2) g a (exO (stF σ) a (opc (stF σ) a) e).1, τ) := fun d τ => sp_int_rec L.2.2.2.1 (by omega) (ex_at (d := d) (τ := τ) R hrec) (by rw [x162]; exact nm) x163 hg30 j01
    have hM : cM (stF σ) a e = ntS (inT (exO (stF σ) a (opc (stF σ) a) e).2) g a (exO (stF σ) a (opc (stF σ) a) e).1 := by
      unfold cM
      rw [if_pos (by rw [x162]; exact nm), x163, tN_nI (by omega)]
    by_cases hap : a' = p
    · -- the recording closes
      rcases hRC with ⟨z, _⟩ | ⟨p', hp', z1, z2, z3, z4, g', k', op', Lr', Sr', y1, y2, y3, y4, y5, y6, y7, y8⟩
      · rw [n162] at z; exact absurd z nm
      · have epp : p' = p := nI_inj (z1.symm.trans n162) (by omega) (by omega)
        have egg : g' = g + 1 := nI_inj (y1.symm.trans n163) (by have := y3.1; omega) (by omega)
        subst epp
        subst egg
        subst hap
        have he0 := good_uni La.2.1 z3 La.2.2.2.2.2
        have hN : cN σ = ktS (mkZ (cM (stF σ) a e) tc (g + 1)) tc a' := by
          have e1 : tN (stF σ 6 3) = a := by rw [L.2.2.2.1, tN_nI (by omega)]
          have e2 : tN (stF σ 6 2) = e := by rw [R.2.2.1.1, tN_nI (by have := R.2.2.1.2.2.1; omega)]
          unfold cN
          rw [e1, e2, if_pos hI]
          unfold cK
          rw [hM, if_pos ⟨by rw [z1]; exact nm, by rw [y1]; exact nI_nle (by omega) (by omega), by rw [La.2.2.2.1, z1]⟩, R'.2.2.2.2.2.2.1.2.1, y1, z1, tN_nI (n := tc) (by omega), tN_nI (n := g + 1) (by omega), tN_nI (n := a') (by omega)]
        rw [hM] at hN
        unfold STEP
        rw [hN]
        refine ⟨_, _, tc + 1, fun d τ => ?_, fun d τ => ?_, keep_rel R' hp' z1 z3 htc4 (by omega) y3 y4 y5 (y6.trans he0), ?_, fun b hb => ?_, fun b hb => ?_, ?_⟩
        · refine sp_step f1 L.2.2.2.1 (by omega) (fun _ => hC d τ) (fun w => absurd hI w) (fun _ => ?_) (fun w => ?_)
          · exact sp_keepAll y3 htc4 (by omega) R'.2.2.2.2.2.2.1.2.1 z1 y1
          · refine absurd ⟨?_, ?_, ?_⟩ w
            · rw [z1]; exact nm
            · rw [y1]; exact nI_nle (by omega) (by omega)
            · rw [La.2.2.2.1, z1]
        · refine ⟨f2, tc, t4, t2, Or.inr ⟨fun w => ?_, ?_⟩⟩
          · rw [h15] at w; exact absurd w (nI_pos (by omega))
          · exact sp_ri_make (d := d + 1) L.2.2.2.2.1 dk1 dk2 h15 (by omega) h1516 hg30 d1 (sp_makeAll y3 htc4 (by omega) R'.2.2.2.2.2.2.1.2.2.1 z2 y2)
        · unfold ktS
          rw [z_up_ne _ _ _ (by omega), z_up_o _ _ (by omega), z_up_ne _ _ _ (by omega), z_up_ne _ _ _ (by omega), mkZ_lo y3 (by have := tr_lo tc; omega)]
          exact h09
        · unfold ktS
          rw [z_up_ne _ _ _ (by omega), z_up_ne _ _ _ (by omega), z_up_ne _ _ _ (by omega), z_up_ne _ _ _ (by omega), mkZ_lo y3 (by have := tr_hi htc4; omega)]
          exact hiS b hb
        · rw [rkZ_lo y3 htc4 (by omega), riR_lo hb, f5 b hb]
        · rw [rkZ_92 y3 htc4 (by omega) (by omega) (by omega) (by omega), w2 0 (by omega), riA_0, f6]
    · refine step_int h hl hM hI hC ?_ (fun d τ => sp_ri_rec (d := d + 1) L.2.2.2.2.1 dk1 dk2 h15 (by omega) h1516 hg30 d1 (by omega) hap) (R'.rel hRC) h09 hiS (fun b hb => by rw [riR_lo hb, f5 b hb]) (by rw [w2 0 (by omega), riA_0])
      rintro ⟨_, _, w⟩
      rw [La.2.2.2.1, n162] at w
      exact hap (nI_inj w (by omega) (by omega))
theorem one_step (h : REL σ ρ n e tc) (hl : LIV σ ρ n e a) : STEP σ ρ n := by
  rcases (stage0 h hl).2.1 with ⟨q1, q2⟩ | q
  · exact step_off h hl q1 q2
  · exact step_on h hl q
/-- the class's states, step after step -/
def cI' (σ : Nat → Nat → Int32) : Nat → Nat → Nat → Int32
  | 0 => σ
  | j + 1 => cI' (cN σ) j
/-- m steps at most, of both -/
theorem many (d d' : Nat) (τ τ' : Nat → Nat → Int64) : ∀ (m : Nat) (σ ρ : Nat → Nat → Int32) (e tc : Nat), REL σ ρ n e tc → σ 0 9 = 1 → ∃ (s : Nat) (G : Nat → Nat → Nat → Int32) (e' tc' : Nat), s ≤ m ∧ G 0 = ρ ∧ (∀ j, j < s → cI' σ j 0 10 = 0 ∧ z_MV M_X10_step (d + 5) 0 0 [.ref 0] (124, z_r0, cI' σ j, τ) none (124, z_r0, cI' σ (j + 1), τ) ∧ ¬ G j 92 7 < 0 ∧ rrB d' τ' (G j) (G (j + 1))) ∧ (s = m ∨ (¬ cI' σ s 0 10 = 0 ∧ G s 92 7 < 0)) ∧ REL (cI' σ s) (G s) n e' tc' ∧ (∀ b, 92 ≤ b → cI' σ s b = σ b) ∧ (∀ b, b < 92 → G s b = ρ b) ∧ G s 92 0 = ρ 92 0 := by
  intro m
  induction m with
  | zero =>
    intro σ ρ e tc h h9
    exact ⟨0, fun _ => ρ, e, tc, Nat.le_refl _, rfl, fun j hj => absurd hj (Nat.not_lt_zero _), Or.inl rfl, h, fun _ _ => rfl, fun _ _ => rfl, rfl⟩
  | succ m ih =>
    intro σ ρ e tc h h9
    rcases h.2.2.2.2.2.2.2.2.1 with ⟨q, _⟩ | ⟨_, _, q1, q2, _⟩ | ⟨a, hl⟩
    · rw [h9] at q; exact absurd q (by decide)
    · exact ⟨0, fun _ => ρ, e, tc, Nat.zero_le _, rfl, fun j hj => absurd hj (Nat.not_lt_zero _), Or.inr ⟨by show ¬ σ 0 10 = 0; rw [q1]; decide, by show ρ 92 7 < 0; rw [q2]; decide⟩, h, fun _ _ => rfl, fun _ _ => rfl, rfl⟩
    · obtain ⟨ρ', e1, tc1, s1, s2, s3, s4, s5, s6, s7⟩ := one_step h hl
      obtain ⟨s, G, e', tc', i1, i3, i4, i5, i6, i8, i9, i10⟩ := ih (cN σ) ρ' e1 tc1 s3 (by rw [s4]; exact h9)
      have ha40 : a < 40 := by have := hl.good.1; have := h.1.1; omega
      refine ⟨s + 1, fun j => if j = 0 then ρ else G (j - 1), e', tc', by omega, rfl, fun j hj => ?_, ?_, ?_, fun b hb => ?_, fun b hb => ?_, ?_⟩
      · by_cases hj0 : j = 0
        · subst hj0
          simp only [if_true, Nat.zero_add, Nat.one_ne_zero, if_false, Nat.sub_self]
          rw [i3]
          exact ⟨hl.2.2.1, s1 d τ, by rw [hl.2.2.2.2.1]; exact nI_pos (by omega), s2 d' τ'⟩
        · obtain ⟨j, rfl⟩ : ∃ j', j = j' + 1 := ⟨j - 1, by omega⟩
          have := i4 j (by omega)
          simp only [if_neg hj0, if_neg (show ¬ j + 1 + 1 = 0 by omega), Nat.add_sub_cancel]
          exact this
      · simp only [if_neg (show ¬ s + 1 = 0 by omega), Nat.add_sub_cancel]
        rcases i5 with i5 | i5
        · exact Or.inl (by omega)
        · exact Or.inr i5
      · simp only [if_neg (show ¬ s + 1 = 0 by omega), Nat.add_sub_cancel]; exact i6
      · show cI' (cN σ) s b = σ b
        rw [i8 b hb, s5 b hb]
      · simp only [if_neg (show ¬ s + 1 = 0 by omega), Nat.add_sub_cancel]; rw [i9 b hb, s6 b hb]
      · simp only [if_neg (show ¬ s + 1 = 0 by omega), Nat.add_sub_cancel]; rw [i10, s7]
end
