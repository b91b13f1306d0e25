/-! PART 98: the law's cases add, begin, run, clear; all cases -/
theorem ins_ad {o x : Int32} : insB o x = 0 ↔ ¬ adG o x := by
  have c1 : nI 6 ≤ x ↔ nI 5 < x := i_le (by omega)
  have c2 : nI 40 ≤ x ↔ nI 39 < x := i_le (by omega)
  unfold insB adG
  by_cases h0 : o = 0
  · rw [if_pos h0, b2_e, h0]
    have a1 : ¬ (0 : Int32) < 0 ∧ ¬ nI 15 < (0 : Int32) := by decide
    have a2 : ¬ ((0 : Int32) = 1 ∨ (0 : Int32) = nI 2) := by decide
    have a3 : ¬ ((0 : Int32) = nI 13 ∨ (0 : Int32) = nI 14) := by decide
    exact ⟨fun w z => w (z.2.1 rfl), fun w z => w ⟨a1, fun _ => z, fun q => absurd q a2, fun q => absurd q a3⟩⟩
  · rw [if_neg h0]
    by_cases h1 : o = 1 ∨ o = nI 2
    · rw [if_pos h1, b2_e, c1]
      have a1 : ¬ o < 0 ∧ ¬ nI 15 < o := by rcases h1 with rfl | rfl <;> decide
      have a3 : ¬ (o = nI 13 ∨ o = nI 14) := by rcases h1 with rfl | rfl <;> decide
      exact ⟨fun w z => w (z.2.2.1 h1), fun w z => w ⟨a1, fun q => absurd q h0, fun _ => z, fun q => absurd q a3⟩⟩
    · rw [if_neg h1]
      by_cases h2 : o = nI 13 ∨ o = nI 14
      · rw [if_pos h2, b2_e, c2]
        have a1 : ¬ o < 0 ∧ ¬ nI 15 < o := by rcases h2 with rfl | rfl <;> decide
        exact ⟨fun w z => w (z.2.2.2 h2), fun w z => w ⟨a1, fun q => absurd q h0, fun q => absurd q h1, fun _ => z⟩⟩
      · rw [if_neg h2, b2_e]
        exact ⟨fun w z => w z.1, fun w z => w ⟨z, fun q => absurd q h0, fun q => absurd q h1, fun q => absurd q h2⟩⟩
section
variable {σ ρ : Nat → Nat → Int32} {n e tc : Nat}
theorem tN_le {x : Int32} {k : Nat} (h : ¬ x < 0) (hk : k < 2 ^ 31) (h2 : ¬ nI k < x) : tN x ≤ k := by
  have h1 : x.toInt < 2 ^ 31 := x.toInt_lt
  have e : tN x = x.toInt.toNat := rfl
  rw [Int32.lt_iff_toInt_lt, Int32.toInt_zero] at h
  rw [Int32.lt_iff_toInt_lt, nI_toInt hk] at h2
  omega
theorem add_rel {o x : Int32} (h : REL σ ρ n e tc) (hb : σ 0 9 = 0) (hn : n < 40) (hG : adG o x) : REL (z_up (z_up (z_up σ 2 n o) 3 n x) 1 2 (nI (n + 1))) (rad ρ n o x) (n + 1) e tc := by
  obtain ⟨h1, h2, h3, h4, h5, h6, h7, h8, h9, h10⟩ := h
  have hA : ρ 92 7 = -1 ∧ tc = 0 ∧ σ 16 2 = -1 := by
    rcases h9 with q | q | ⟨a, q⟩
    · exact q.2
    · rw [q.1] at hb; exact absurd hb (by decide)
    · rw [q.1] at hb; exact absurd hb (by decide)
  have hR : ρ 92 15 = -1 := by
    rcases h8 with q | ⟨p, hp, q, _⟩
    · exact q.2
    · rw [hA.2.2] at q; exact absurd q.symm (nI_m1 (by omega))
  have s0 : ∀ b, b ≠ 1 → b ≠ 2 → b ≠ 3 → z_up (z_up (z_up σ 2 n o) 3 n x) 1 2 (nI (n + 1)) b = σ b := fun b b1 b2 b3 => by rw [z_up_ne _ _ _ b1, z_up_ne _ _ _ b3, z_up_ne _ _ _ b2]
  have s2 : z_up (z_up (z_up σ 2 n o) 3 n x) 1 2 (nI (n + 1)) 2 = va_up (σ 2) n o := by rw [z_up_ne _ _ _ (by omega), z_up_ne _ _ _ (by omega), z_up_row]
  have s3 : z_up (z_up (z_up σ 2 n o) 3 n x) 1 2 (nI (n + 1)) 3 = va_up (σ 3) n x := by rw [z_up_ne _ _ _ (by omega), z_up_row, z_up_ne _ _ _ (by omega)]
  have r0 : ∀ b, b ≠ 92 → b ≠ 93 → b ≠ 94 → rad ρ n o x b = ρ b := fun b b1 b2 b3 => by unfold rad; rw [z_up_ne _ _ _ b1, z_up_ne _ _ _ b3, z_up_ne _ _ _ b2, z_up_ne _ _ _ b1]
  have r92 : ∀ i, i ≠ 0 → i ≠ 1 → rad ρ n o x 92 i = ρ 92 i := fun i i0 i1 => by unfold rad; rw [z_up_o _ _ (Or.inr i1), z_up_ne _ _ _ (by omega), z_up_ne _ _ _ (by omega), z_up_o _ _ (Or.inr i0)]
  have r3 : rad ρ n o x 93 = va_up (ρ 93) n o := by unfold rad; rw [z_up_ne _ _ _ (by omega), z_up_ne _ _ _ (by omega), z_up_row, z_up_ne _ _ _ (by omega)]
  have r4 : rad ρ n o x 94 = va_up (ρ 94) n x := by unfold rad; rw [z_up_ne _ _ _ (by omega), z_up_row, z_up_ne _ _ _ (by omega), z_up_ne _ _ _ (by omega)]
  have e0 := s0 0 (by omega) (by omega) (by omega)
  refine ⟨⟨by omega, by rw [z_up_s], by unfold rad; rw [z_up_s], fun a ha => ?_⟩, ?_, ?_, h4.to (s0 9 (by omega) (by omega) (by omega)) (s0 10 (by omega) (by omega) (by omega)) (r92 11 (by omega) (by omega)) (r0 98 (by omega) (by omega) (by omega)), ?_, ?_, ?_, Or.inl ⟨by rw [s0 16 (by omega) (by omega) (by omega)]; exact hA.2.2, by rw [r92 15 (by omega) (by omega)]; exact hR⟩, Or.inl ⟨by rw [e0]; exact hb, by rw [r92 7 (by omega) (by omega)]; exact hA.1, hA.2.1, by rw [s0 16 (by omega) (by omega) (by omega)]; exact hA.2.2⟩, fun t ht => absurd ht (by rw [hA.2.1]; omega)⟩
  · have eo : opc (z_up (z_up (z_up σ 2 n o) 3 n x) 1 2 (nI (n + 1))) a = tN (va_up (σ 2) n o a) := by unfold opc; rw [s2]
    have ej : jmc (z_up (z_up (z_up σ 2 n o) 3 n x) 1 2 (nI (n + 1))) a = tN (va_up (σ 3) n x a) := by unfold jmc; rw [s3]
    rw [eo, ej, s2, s3, r3, r4, upE, upE, upE, upE]
    by_cases han : a = n
    · rw [if_pos han, if_pos han, if_pos han, if_pos han]
      obtain ⟨⟨g1, g2⟩, g3, g4, g5⟩ := hG
      have et := nI_tN g1
      have el := tN_le g1 (by omega) g2
      refine ⟨by omega, et, rfl, rfl, fun q => ?_, fun q => ?_⟩
      · have : o = 1 ∨ o = nI 2 := by
          rcases q with q | q
          · left; rw [et, q]; rfl
          · right; rw [et, q]
        obtain ⟨z1, z2⟩ := g4 this
        have := tN_le z1 (by omega) z2
        exact ⟨by omega, nI_tN z1⟩
      · have : o = nI 13 ∨ o = nI 14 := by
          rcases q with q | q
          · left; rw [et, q]
          · right; rw [et, q]
        obtain ⟨z1, z2⟩ := g5 this
        have := tN_le z1 (by omega) z2
        exact ⟨by omega, nI_tN z1⟩
    · rw [if_neg han, if_neg han, if_neg han, if_neg han]
      exact h1.2.2.2 a (by omega)
  · unfold FLG at h2 ⊢; rw [e0, r92 5 (by omega) (by omega), r92 6 (by omega) (by omega)]; exact h2
  · unfold FR at h3 ⊢; rw [s0 6 (by omega) (by omega) (by omega), s0 7 (by omega) (by omega) (by omega), s0 8 (by omega) (by omega) (by omega), r0 96 (by omega) (by omega) (by omega), r0 97 (by omega) (by omega) (by omega), r92 9 (by omega) (by omega)]; exact h3
  · unfold TAL at h5 ⊢; rw [s0 11 (by omega) (by omega) (by omega), r92 31 (by omega) (by omega), r92 32 (by omega) (by omega), r92 33 (by omega) (by omega), r92 34 (by omega) (by omega)]; exact h5
  · unfold PLW at h6 ⊢
    rw [e0, s0 13 (by omega) (by omega) (by omega), s0 14 (by omega) (by omega) (by omega), r0 99 (by omega) (by omega) (by omega), r0 100 (by omega) (by omega) (by omega)]
    exact ⟨h6.1, fun q => by rw [hb] at q; exact absurd q (by decide)⟩
  · unfold TCN at h7 ⊢; rw [e0, r92 19 (by omega) (by omega), r92 20 (by omega) (by omega)]; exact h7
end
section
variable {D b L j mc ms rc rs : Nat} {Qx : z_QT} {xs : Nat → Int32} {σ : Nat → Nat → Int32} {τ : Nat → Nat → Int64} {w5 w6 : Option Value}
theorem cs_add (h : INV σ) (hj : j + 4 ≤ L) (hL : L ≤ 2048) (K : ∀ (σ2 : Nat → Nat → Int32) (τ2 : Nat → Nat → Int64) (w5 w6 : Option Value), INV σ2 → z_Y (z_lc b L xs) Qx b M_L_law (D + 8) mc ms rc rs 709 [none, some (.ref 0), some (.ref 92), some (.ref 123), some (.int (nI j)), w5, w6] [] (124, z_r0, σ2, τ2)) : z_Y (z_lc b L xs) Qx b M_L_law (D + 8) mc ms (rc + 1) (rs + 6) 96 [none, some (.ref 0), some (.ref 92), some (.ref 123), some (.int (nI j)), w5, w6] [] (124, z_r0, σ, τ) := by
  obtain ⟨n, e, tc, hR⟩ := id h
  obtain ⟨n40, n1, n2, _⟩ := hR.1
  by_cases hi : insB (xs (j + 1)) (xs (j + 2)) = 0
  · refine lw_add (k := 1) (mc' := 1) (ms' := 6) (y := 0) hj hL (lx_add (sx_add hi)) (sp_radd_1 (ins_ad.mp hi)) ?_ (fun q => absurd q (by decide)) ⟨by omega, by omega⟩ (fun w5 w6 => K _ _ w5 w6 h.k)
    rw [z_up_s]
  · have hG : adG (xs (j + 1)) (xs (j + 2)) := Classical.byContradiction fun w => hi (ins_ad.mpr w)
    by_cases hb : σ 0 9 = 0 ∧ n < 40
    · refine lw_add (k := 0) (mc' := 0) (ms' := 0) (y := nI (n + 1)) hj hL (lh_add (sp_add hi hb.1 n1 hb.2)) (sp_radd (n := n) hG ?_ hb.2 ?_) ?_ (fun _ => ?_) ⟨by omega, by omega⟩ (fun w5 w6 => K _ _ w5 w6 ⟨n + 1, e, tc, ?_⟩)
      · rw [z_up_ne _ _ _ (by omega), z_up_ne _ _ _ (by omega), z_up_ne _ _ _ (by omega)]; exact n2
      · rw [z_up_ne _ _ _ (by omega), z_up_ne _ _ _ (by omega), z_up_ne _ _ _ (by omega), hR.2.1.1]; exact hb.1
      · unfold rad; rw [z_up_o _ _ (by omega), z_up_ne _ _ _ (by omega), z_up_ne _ _ _ (by omega), z_up_s]
      · rw [z_up_s]
      · have hR1 : REL σ (z_up (z_up (z_up σ 2 n (xs (j + 1))) 3 n (xs (j + 2))) 1 2 (nI (n + 1))) n e tc := hR.congr (fun _ _ => rfl) (fun b hb _ => by rw [z_up_ne _ _ _ (by omega), z_up_ne _ _ _ (by omega), z_up_ne _ _ _ (by omega)]) (fun i _ => by rw [z_up_ne _ _ _ (by omega), z_up_ne _ _ _ (by omega), z_up_ne _ _ _ (by omega)])
        refine (add_rel hR1 hb.1 hb.2 hG).congr (fun b hb => ?_) (fun _ _ _ => rfl) (fun _ _ => rfl)
        unfold rad
        rw [z_up_ne _ _ _ (by omega), z_up_ne _ _ _ (by omega), z_up_ne _ _ _ (by omega), z_up_ne _ _ _ (by omega)]
    · have h2 : ¬ σ 0 9 = 0 ∨ ¬ σ 1 2 < nI 40 := by
        rw [n1]
        by_cases w : σ 0 9 = 0
        · exact Or.inr (nI_nlt (Nat.le_of_not_lt fun z => hb ⟨w, z⟩) (by omega))
        · exact Or.inl w
      refine lw_add (k := nI 2) (mc' := 1) (ms' := 6) (y := 0) hj hL (lx_add2 (sx_add2 hi h2)) (sp_radd_2 hG ?_) ?_ (fun q => absurd q (by decide)) ⟨by omega, by omega⟩ (fun w5 w6 => K _ _ w5 w6 h.k)
      · rw [n2, hR.2.1.1]
        by_cases w : σ 0 9 = 0
        · have : ¬ n < 40 := fun z => hb ⟨w, z⟩
          exact Or.inl (by rw [show n = 40 by omega])
        · exact Or.inr w
      · rw [z_up_s]
theorem cs_clear (h : INV σ) (K : ∀ (σ2 : Nat → Nat → Int32) (τ2 : Nat → Nat → Int64) (w5 w6 : Option Value), INV σ2 → z_Y (z_lc b L xs) Qx b M_L_law (D + 8) mc ms rc rs 709 [none, some (.ref 0), some (.ref 92), some (.ref 123), some (.int (nI j)), w5, w6] [] (124, z_r0, σ2, τ2)) : z_Y (z_lc b L xs) Qx b M_L_law (D + 8) mc ms rc rs 323 [none, some (.ref 0), some (.ref 92), some (.ref 123), some (.int (nI j)), w5, w6] [] (124, z_r0, σ, τ) := by
  obtain ⟨n, e, tc, hR⟩ := id h
  obtain ⟨n40, n1, n2, _⟩ := hR.1
  have hi : ∀ b, 92 ≤ b → ccl σ b = σ b := fun b hb => by
    unfold ccl
    rw [z_up_ne _ _ _ (by omega), fgP_rows.1 b (by omega), z_up_ne _ _ _ (by omega)]
  have e1 : ccl σ 92 1 = σ 1 2 := by rw [hi 92 (by omega), n1, n2]
  refine lw_clear (τ1 := τ) (σ1 := ccl σ) (rc' := 0) (rs' := 0) (mc' := 0) (ms' := 0) (k := 0) (y := σ 1 2) sp_clear (by rw [← e1]; exact sp_rclear) (fun w5 w6 => K _ _ w5 w6 ⟨0, 0, 0, ?_⟩)
  have hR1 : REL σ (ccl σ) n e tc := hR.congr (fun _ _ => rfl) (fun b hb _ => hi b (by omega)) (fun i _ => by rw [hi 92 (by omega)])
  refine (clear_rel hR1).congr (fun b hb => ?_) (fun _ _ _ => rfl) (fun _ _ => rfl)
  unfold rcl
  rw [z_up_ne _ _ _ (by omega), z_up_ne _ _ _ (by omega), frS_rows.1 b (by omega), z_up_ne _ _ _ (by omega), z_up_ne _ _ _ (by omega)]
/-- begin, with the tier's truth w as it is given -/
theorem bgn {w : Int32} (h : INV σ) (hw : w = 0 ∨ w = 1) (x1 x2 : Int32) : ∃ (mc' ms' : Nat) (k y : Int32) (σ1 σ2 : Nat → Nat → Int32) (τ1 : Nat → Nat → Int64), mc' ≤ 1 ∧ ms' ≤ 6 ∧ z_HV M_L_begin H_L_begin (D + 7) mc' ms' [.ref 0, .int x1, .int x2, .int w, .ref 123] (124, z_r0, σ, τ) (some (.int k)) (124, z_r0, σ1, τ1) ∧ z_MV M_X11_begin (D + 7) 0 0 [.ref 92, .int x1, .int x2, .int w] (124, z_r0, σ1, τ1) (some (.int y)) (124, z_r0, σ2, τ1) ∧ σ2 92 0 = k ∧ (k = 0 → τ1 123 0 = if y = 0 then 0 else 1) ∧ INV σ2 := by
  obtain ⟨n, e, tc, hR⟩ := id h
  obtain ⟨n40, n1, n2, _⟩ := hR.1
  have h09 : σ 0 9 = 0 ∨ σ 0 9 = 1 := by
    rcases hR.2.2.2.2.2.2.2.2.1 with q | q | ⟨a, q⟩
    · exact Or.inl q.1
    · exact Or.inr q.1
    · exact Or.inr q.1
  obtain ⟨d1, d2, d3, d4⟩ := hR.1.cdE
  have hs := snd_ok n40 n1 d3 d1
  obtain ⟨s1, s2⟩ := @snd_rows σ
  by_cases hz : (snd σ).1 = 0
  · -- not sound
    have hR1 : REL (snd σ).2 (snd σ).2 n e tc := (snd_rel hR).congr (fun _ _ => rfl) (fun b hb _ => s1 b (by omega)) (fun i _ => by rw [s1 92 (by omega)])
    obtain ⟨g1, g2, g3, g4⟩ := hR1.1.cdE
    have e2 := (cd_eq (s1 2 (by omega)) (s1 3 (by omega)))
    rw [e2.1, e2.2] at g2
    have cz : cdE (z_up (snd σ).2 92 0 0) n 93 94 (opc σ) (jmc σ) := by
      intro a ha
      rw [z_up_ne _ _ _ (by omega), z_up_ne _ _ _ (by omega)]
      exact g2 a ha
    have hz2 : (rsnd (z_up (snd σ).2 92 0 0) n).1 = 0 := (rsnd_ok n40 cz).mpr (hs.mp hz)
    refine ⟨1, 6, 1, 0, _, _, τ, by omega, by omega, lx_begin (sx_begin n40 n1 d3 hz), sp_rbegin_no n40 hR1.1.2.2.1 g4 hz2, by rw [z_up_s], fun q => absurd q (by decide), n, e, tc, ?_⟩
    refine hR1.congr (fun b hb => ?_) (fun b hb h95 => ?_) (fun i hi => ?_)
    · rw [z_up_ne _ _ _ (by omega), rsnd_ne (by omega), z_up_ne _ _ _ (by omega)]
    · rw [z_up_ne _ _ _ (by omega), rsnd_ne h95, z_up_ne _ _ _ (by omega)]
    · rw [z_up_o _ _ (Or.inr hi), rsnd_ne (by omega), z_up_o _ _ (Or.inr hi)]
  · have hi : ∀ b, 92 ≤ b → cbg (snd σ).2 x1 x2 w b = σ b := fun b hb => by
      unfold cbg
      rw [z_up_ne _ _ _ (by omega), z_up_ne _ _ _ (by omega), z_up_ne _ _ _ (by omega), z_up_ne _ _ _ (by omega), fgP_rows.1 b (by omega), s1 b (by omega)]
    have hR1 : REL σ (cbg (snd σ).2 x1 x2 w) n e tc := hR.congr (fun _ _ => rfl) (fun b hb _ => hi b (by omega)) (fun i _ => by rw [hi 92 (by omega)])
    obtain ⟨g1, g2, g3, g4⟩ := hR1.1.cdE
    have cz : cdE (z_up (cbg (snd σ).2 x1 x2 w) 92 0 0) n 93 94 (opc σ) (jmc σ) := by
      intro a ha
      rw [z_up_ne _ _ _ (by omega), z_up_ne _ _ _ (by omega)]
      exact g2 a ha
    have hz2 : ¬ (rsnd (z_up (cbg (snd σ).2 x1 x2 w) 92 0 0) n).1 = 0 := fun q => hz (hs.mpr ((rsnd_ok n40 cz).mp q))
    have e5 : (rsnd (z_up (cbg (snd σ).2 x1 x2 w) 92 0 0) n).2 92 5 = σ 0 9 := by rw [rsnd_ne (by omega), z_up_o _ _ (by omega), hi 92 (by omega), hR.2.1.1]
    have e9 : (snd σ).2 0 9 = σ 0 9 := by rw [s1 0 (by omega)]
    have hB : ¬ BadC n (opc σ) (jmc σ) := fun q => hz (hs.mpr q)
    refine ⟨0, 0, 0, _, _, _, _, by omega, by omega, lh_begin (sp_begin n40 n1 d3 hw hz (by rw [e9]; exact h09)), sp_rbegin n40 hR1.1.2.2.1 g4 hw hz2 (by rw [e5]; exact h09), ?_, fun _ => ?_, n, 0, 0, ?_⟩
    · unfold rbg
      rw [z_up_o _ _ (by omega), z_up_o _ _ (by omega), z_up_o _ _ (by omega), z_up_ne _ _ _ (by omega), z_up_ne _ _ _ (by omega), frS_rows.2.1 0 (by omega), rsnd_ne (by omega), z_up_s]
    · rw [z_up_s, e5, e9]
    · refine (begin_rel (x := x1) (y := x2) hR1 hw hB).congr (fun b hb => ?_) (fun _ _ _ => rfl) (fun _ _ => rfl)
      unfold rbg
      rw [z_up_ne _ _ _ (by omega), z_up_ne _ _ _ (by omega), z_up_ne _ _ _ (by omega), z_up_ne _ _ _ (by omega), z_up_ne _ _ _ (by omega), frS_rows.1 b (by omega), rsnd_ne (by omega), z_up_ne _ _ _ (by omega)]
theorem cs_begin (h : INV σ) (hj : j + 4 ≤ L) (hL : L ≤ 2048) (K : ∀ (σ2 : Nat → Nat → Int32) (τ2 : Nat → Nat → Int64) (w5 w6 : Option Value), INV σ2 → z_Y (z_lc b L xs) Qx b M_L_law (D + 8) mc ms rc rs 709 [none, some (.ref 0), some (.ref 92), some (.ref 123), some (.int (nI j)), w5, w6] [] (124, z_r0, σ2, τ2)) : z_Y (z_lc b L xs) Qx b M_L_law (D + 8) mc ms (rc + 1) (rs + 6) 164 [none, some (.ref 0), some (.ref 92), some (.ref 123), some (.int (nI j)), w5, w6] [] (124, z_r0, σ, τ) := by
  by_cases h3 : xs (j + 3) = 0
  · obtain ⟨mc', ms', k, y, σ1, σ2, τ1, b1, b2, b3, b4, b5, b6, b7⟩ := bgn (D := D) (τ := τ) (w := 0) h (Or.inl rfl) (xs (j + 1)) (xs (j + 2))
    exact lw_begin0 h3 hj hL b3 b4 b5 b6 ⟨by omega, by omega⟩ (fun w5 w6 => K _ _ w5 w6 b7)
  · obtain ⟨mc', ms', k, y, σ1, σ2, τ1, b1, b2, b3, b4, b5, b6, b7⟩ := bgn (D := D) (τ := τ) (w := 1) h (Or.inr rfl) (xs (j + 1)) (xs (j + 2))
    exact lw_begin1 h3 hj hL b3 b4 b5 b6 ⟨by omega, by omega⟩ (fun w5 w6 => K _ _ w5 w6 b7)
theorem cs_run (h : INV σ) (hj : j + 4 ≤ L) (hL : L ≤ 2048) (K : ∀ (σ2 : Nat → Nat → Int32) (τ2 : Nat → Nat → Int64) (w5 w6 : Option Value), INV σ2 → z_Y (z_lc b L xs) Qx b M_L_law (D + 8) mc ms rc rs 709 [none, some (.ref 0), some (.ref 92), some (.ref 123), some (.int (nI j)), w5, w6] [] (124, z_r0, σ2, τ2)) : z_Y (z_lc b L xs) Qx b M_L_law (D + 8) mc ms (rc + 1) (rs + 6) 267 [none, some (.ref 0), some (.ref 92), some (.ref 123), some (.int (nI j)), w5, w6] [] (124, z_r0, σ, τ) := by
  obtain ⟨n, e, tc, hR⟩ := id h
  by_cases hx : ¬ xs (j + 1) < 1 ∧ xs (j + 1) ≤ nI 500
  · by_cases h9 : σ 0 9 = 0
    · refine lw_run (k := nI 2) (mc' := 1) (ms' := 6) (y := 0) hj hL (lx_run2 (sx_run2 hx h9)) (sp_rrun_2 (d := D + 6) ⟨hx.1, fun q => i_nle.mpr q hx.2⟩ (by rw [hR.2.1.1]; exact h9)) ?_ (fun q => absurd q (by decide)) ⟨by omega, by omega⟩ (fun w5 w6 => K _ _ w5 w6 h.k)
      rw [z_up_s]
    · have h91 : σ 0 9 = 1 := by
        rcases hR.2.2.2.2.2.2.2.2.1 with q | q | ⟨a, q⟩
        · exact absurd q.1 h9
        · exact q.1
        · exact q.1
      obtain ⟨m, hm1, hm500, ev⟩ : ∃ m, 1 ≤ m ∧ m ≤ 500 ∧ xs (j + 1) = nI m := by
        have q0 : ¬ xs (j + 1) < 0 := by
          have := hx.1
          rw [Int32.lt_iff_toInt_lt] at this ⊢
          rw [show (1 : Int32).toInt = 1 from rfl] at this
          rw [Int32.toInt_zero]
          omega
        have t : tN (xs (j + 1)) = (xs (j + 1)).toInt.toNat := rfl
        have q1 := hx.1
        rw [Int32.lt_iff_toInt_lt, show (1 : Int32).toInt = 1 from rfl] at q1
        exact ⟨tN (xs (j + 1)), by omega, tN_le q0 (by omega) (fun q => i_nle.mpr q hx.2), nI_tN q0⟩
      obtain ⟨s, G0, e0, tc0, a1, a2, a3, a4, a5, a6, a7, _⟩ := many D 0 τ (fun _ _ => 0) m σ σ e tc hR h91
      have hR1 : REL σ (z_up (cI' σ s) 92 0 0) n e tc := hR.congr (fun _ _ => rfl) (fun b hb _ => by rw [z_up_ne _ _ _ (by omega), a6 b (by omega)]) (fun i hi => by rw [z_up_o _ _ (Or.inr hi), a6 92 (by omega)])
      obtain ⟨s', G, e', tc', b1, b2, b3, b4, b5, b6, b7, b8⟩ := many D (D + 2) τ (z_up τ 123 0 (nI s).toInt64) m σ (z_up (cI' σ s) 92 0 0) e tc hR1 h91
      have hss : s' = s := by
        refine Nat.le_antisymm (Nat.le_of_not_lt fun q => ?_) (Nat.le_of_not_lt fun q => ?_)
        · have := (b3 s q).1
          rcases a4 with w | w
          · omega
          · exact w.1 this
        · have := (a3 s' q).1
          rcases b4 with w | w
          · omega
          · exact w.1 this
      subst hss
      have e5 : cI' σ s' 92 5 = σ 92 5 := by rw [a6 92 (by omega)]
      have c1 := lh_run (sp_run (d := D) (τ := τ) (F := cI' σ) hm500 a1 (fun j hj => ⟨(a3 j hj).1, (a3 j hj).2.1⟩) (a4.elim Or.inl (fun q => Or.inr q.1)) hm1 rfl h9)
      have c2 := sp_rrun (d := D + 2) (σ := cI' σ s') (τ := z_up τ 123 0 (nI s').toInt64) (F := G) hm500 b1 (fun j hj => ⟨(b3 j hj).2.2.1, (b3 j hj).2.2.2⟩) (b4.elim Or.inl (fun q => Or.inr q.2)) hm1 b2 (by rw [e5, hR.2.1.1]; exact h9)
      rw [← ev] at c1 c2
      refine lw_run (k := 0) (mc' := 0) (ms' := 0) (y := nI s') hj hL c1 c2 ?_ (fun _ => by rw [z_up_s]) ⟨by omega, by omega⟩ (fun w5 w6 => K _ _ w5 w6 ⟨n, e', tc', ?_⟩)
      · rw [b8, z_up_s]
      · refine b5.congr (fun b hb => ?_) (fun _ _ _ => rfl) (fun _ _ => rfl)
        rw [b7 b hb, z_up_ne _ _ _ (by omega)]
  · have h' : xs (j + 1) < 1 ∨ ¬ xs (j + 1) ≤ nI 500 := Classical.byContradiction fun w => hx ⟨fun z => w (Or.inl z), Classical.byContradiction fun z => w (Or.inr z)⟩
    refine lw_run (k := 1) (mc' := 1) (ms' := 6) (y := 0) hj hL (lx_run (sx_run h')) (sp_rrun_1 (d := D + 6) (fun q => hx ⟨q.1, i_nlt.mp q.2⟩)) ?_ (fun q => absurd q (by decide)) ⟨by omega, by omega⟩ (fun w5 w6 => K _ _ w5 w6 h.k)
    rw [z_up_s]
theorem zy_le {Cx : z_CT} {b0 : Nat} {M : z_M} {d mc ms rc rs rc' rs' pc : Nat} {lv : List (Option Value)} {st : List Value} {X : z_X} (k : z_Y Cx Qx b0 M d mc ms rc rs pc lv st X) (h1 : rc ≤ rc') (h2 : rs ≤ rs') : z_Y Cx Qx b0 M d mc ms rc' rs' pc lv st X :=
  fun p l e s m args below meth c D dA A n0 h0 h H ls locs cells slots a1 a2 a3 a4 a5 a6 a7 a8 a9 => k p l e s m args below meth c D dA A n0 h0 h H ls locs cells slots a1 a2 a3 a4 a5 a6 a7 (by omega) (by omega)
/-- a case of the law -/
theorem cs_all (h : INV σ) (hj : j + 4 ≤ L) (hL : L ≤ 2048) (K : ∀ (σ2 : Nat → Nat → Int32) (τ2 : Nat → Nat → Int64) (w5 w6 : Option Value), INV σ2 → z_Y (z_lc b L xs) Qx b M_L_law (D + 8) mc ms rc rs 709 [none, some (.ref 0), some (.ref 92), some (.ref 123), some (.int (nI j)), w5, w6] [] (124, z_r0, σ2, τ2)) : z_Y (z_lc b L xs) Qx b M_L_law (D + 8) mc ms (rc + 1) (rs + 6) 39 [none, some (.ref 0), some (.ref 92), some (.ref 123), some (.int (nI j)), w5, w6] [.int (xs j &&& nI 15)] (124, z_r0, σ, τ) := by
  obtain ⟨c, hc, ec⟩ := nI_and15 (xs j)
  rw [ec]
  refine lw_switch (d := D + 7) hc ?_
  have hd : ∀ c, c < 16 → 11 ≤ c → lw_tgt c = 709 := by decide
  rcases (show c = 0 ∨ c = 1 ∨ c = 2 ∨ c = 3 ∨ c = 4 ∨ c = 5 ∨ c = 6 ∨ c = 7 ∨ c = 8 ∨ c = 9 ∨ c = 10 ∨ 11 ≤ c by omega) with rfl | rfl | rfl | rfl | rfl | rfl | rfl | rfl | rfl | rfl | rfl | h11
  · exact cs_add h hj hL K
  · exact cs_begin h hj hL K
  · exact cs_run h hj hL K
  · exact zy_le (cs_clear h K) (by omega) (by omega)
  · exact cs_local h hj hL K
  · exact cs_top h hj hL K
  · exact zy_le (cs_outs h K) (by omega) (by omega)
  · exact cs_out h hj hL K
  · exact cs_count h hj hL K
  · exact cs_place h hj hL K
  · exact cs_trace h hj hL K
  · rw [hd c hc h11]
    exact zy_le (K σ τ w5 w6 h) (by omega) (by omega)
end
