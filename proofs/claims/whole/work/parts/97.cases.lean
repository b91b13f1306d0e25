/-! PART 97: the law's cases where nothing is changed -/
def INV (σ : Nat → Nat → Int32) : Prop := ∃ n e tc, REL σ σ n e tc
theorem nI_tN {x : Int32} (h : ¬ x < 0) : x = nI (tN x) := by
  have h0 : 0 ≤ x.toInt := by
    rw [Int32.lt_iff_toInt_lt, Int32.toInt_zero] at h
    omega
  have h1 : x.toInt < 2 ^ 31 := x.toInt_lt
  have e : tN x = x.toInt.toNat := rfl
  apply Int32.toInt_inj.mp
  rw [nI_toInt (by omega), e]
  omega
theorem tN_lt {x : Int32} {k : Nat} (h : ¬ x < 0) (hk : k < 2 ^ 31) : x < nI k ↔ tN x < k := by
  have h1 : x.toInt < 2 ^ 31 := x.toInt_lt
  have e : tN x = x.toInt.toNat := rfl
  rw [Int32.lt_iff_toInt_lt, Int32.toInt_zero] at h
  rw [Int32.lt_iff_toInt_lt, nI_toInt hk]
  omega
theorem i_le {x : Int32} {k : Nat} (hk : k + 1 < 2 ^ 31) : nI (k + 1) ≤ x ↔ nI k < x := by
  rw [Int32.le_iff_toInt_le, Int32.lt_iff_toInt_lt, nI_toInt hk, nI_toInt (by omega)]
  omega
theorem i_nlt {x y : Int32} : ¬ x < y ↔ y ≤ x := by
  rw [Int32.le_iff_toInt_le, Int32.lt_iff_toInt_lt]; omega
theorem i_nle {x y : Int32} : ¬ x ≤ y ↔ y < x := by
  rw [Int32.le_iff_toInt_le, Int32.lt_iff_toInt_lt]; omega
section
variable {D b L j mc ms rc rs : Nat} {Qx : z_QT} {xs : Nat → Int32} {σ : Nat → Nat → Int32} {τ : Nat → Nat → Int64} {w5 w6 : Option Value}
theorem INV.k {k : Int32} (h : INV σ) : INV (z_up σ 92 0 k) := by
  obtain ⟨n, e, tc, h⟩ := h
  exact ⟨n, e, tc, h.congr (fun b hb => z_up_ne _ _ _ (by omega)) (fun b hb _ => z_up_ne _ _ _ (by omega)) (fun i hi => z_up_o _ _ (Or.inr hi))⟩
theorem cs_local (h : INV σ) (hj : j + 4 ≤ L) (hL : L ≤ 2048) (K : ∀ (σ2 : Nat → Nat → Int32) (τ2 : Nat → Nat → Int64) (w5 w6 : Option Value), INV σ2 → z_Y (z_lc b L xs) Qx b M_L_law (D + 8) mc ms rc rs 709 [none, some (.ref 0), some (.ref 92), some (.ref 123), some (.int (nI j)), w5, w6] [] (124, z_r0, σ2, τ2)) : z_Y (z_lc b L xs) Qx b M_L_law (D + 8) mc ms (rc + 1) (rs + 6) 336 [none, some (.ref 0), some (.ref 92), some (.ref 123), some (.int (nI j)), w5, w6] [] (124, z_r0, σ, τ) := by
  obtain ⟨n, e, tc, hR⟩ := id h
  by_cases hx : ¬ xs (j + 1) < 0 ∧ xs (j + 1) < nI 6
  · obtain ⟨v, hv, ev⟩ : ∃ v, v < 6 ∧ xs (j + 1) = nI v := ⟨tN (xs (j + 1)), (tN_lt hx.1 (by omega)).mp hx.2, nI_tN hx.1⟩
    refine lw_local (k := 0) (mc' := 0) (ms' := 0) (y := σ 96 (v)) hj hL (by rw [ev]; exact lh_local (sp_local hv)) (by rw [ev]; exact sp_rlocal hv) ?_ (fun _ => ?_) ⟨by omega, by omega⟩ (fun w5 w6 => K _ _ w5 w6 h.k)
    · rw [z_up_s]
    · rw [z_up_s, hR.2.2.1.2.2.2.1 _ hv]
  · have h' : xs (j + 1) < 0 ∨ ¬ xs (j + 1) < nI 6 := Classical.byContradiction fun w => hx ⟨fun z => w (Or.inl z), Classical.byContradiction fun z => w (Or.inr z)⟩
    refine lw_local (k := 1) (mc' := 1) (ms' := 6) (y := 0) hj hL (lx_local (sx_local h')) (sp_rlocal_no ?_) ?_ (fun q => absurd q (by decide)) ⟨by omega, by omega⟩ (fun w5 w6 => K _ _ w5 w6 h.k)
    · rintro ⟨q1, q2⟩
      refine hx ⟨q1, i_nle.mp fun q => q2 (i_le (k := 5) (by omega) |>.mp q)⟩
    · rw [z_up_s]
theorem cs_top (h : INV σ) (hj : j + 4 ≤ L) (hL : L ≤ 2048) (K : ∀ (σ2 : Nat → Nat → Int32) (τ2 : Nat → Nat → Int64) (w5 w6 : Option Value), INV σ2 → z_Y (z_lc b L xs) Qx b M_L_law (D + 8) mc ms rc rs 709 [none, some (.ref 0), some (.ref 92), some (.ref 123), some (.int (nI j)), w5, w6] [] (124, z_r0, σ2, τ2)) : z_Y (z_lc b L xs) Qx b M_L_law (D + 8) mc ms (rc + 1) (rs + 6) 392 [none, some (.ref 0), some (.ref 92), some (.ref 123), some (.int (nI j)), w5, w6] [] (124, z_r0, σ, τ) := by
  obtain ⟨n, e, tc, hR⟩ := id h
  obtain ⟨f1, f2, f3, f4, f5⟩ := hR.2.2.1
  by_cases hx : ¬ xs (j + 1) < 0 ∧ xs (j + 1) < nI e
  · obtain ⟨v, hv, ev⟩ : ∃ v, v < e ∧ xs (j + 1) = nI v := ⟨tN (xs (j + 1)), (tN_lt hx.1 (by omega)).mp hx.2, nI_tN hx.1⟩
    obtain ⟨e', rfl⟩ : ∃ e', e = e' + 1 := ⟨e - 1, by omega⟩
    refine lw_top (k := 0) (mc' := 0) (ms' := 0) (y := σ 97 (e' - v)) hj hL (by rw [ev]; exact lh_top (sp_top f1 (by omega) (by omega))) (by rw [ev]; exact sp_rtop f2 (by omega) (by omega)) ?_ (fun _ => ?_) ⟨by omega, by omega⟩ (fun w5 w6 => K _ _ w5 w6 h.k)
    · rw [z_up_s]
    · rw [z_up_s, f5 _ (by omega)]
  · have h' : xs (j + 1) < 0 ∨ ¬ xs (j + 1) < σ 6 2 := by
      rw [f1]
      exact Classical.byContradiction fun w => hx ⟨fun z => w (Or.inl z), Classical.byContradiction fun z => w (Or.inr z)⟩
    refine lw_top (k := 1) (mc' := 1) (ms' := 6) (y := 0) hj hL (lx_top (sx_top h')) (sp_rtop_no ?_) ?_ (fun q => absurd q (by decide)) ⟨by omega, by omega⟩ (fun w5 w6 => K _ _ w5 w6 h.k)
    · rintro ⟨q1, q2⟩
      rw [f2] at q2
      cases e with
      | zero =>
        refine q2 ?_
        rw [nI_0]
        have : (0 : Int32) - 1 < 0 := by decide
        have q := i_nlt.mp q1
        rw [Int32.lt_iff_toInt_lt] at this ⊢
        rw [Int32.le_iff_toInt_le] at q
        omega
      | succ e =>
        rw [nI_pred] at q2
        exact hx ⟨q1, i_nle.mp fun q => q2 (i_le (by omega) |>.mp q)⟩
    · rw [z_up_s]
theorem cs_outs (h : INV σ) (K : ∀ (σ2 : Nat → Nat → Int32) (τ2 : Nat → Nat → Int64) (w5 w6 : Option Value), INV σ2 → z_Y (z_lc b L xs) Qx b M_L_law (D + 8) mc ms rc rs 709 [none, some (.ref 0), some (.ref 92), some (.ref 123), some (.int (nI j)), w5, w6] [] (124, z_r0, σ2, τ2)) : z_Y (z_lc b L xs) Qx b M_L_law (D + 8) mc ms rc rs 448 [none, some (.ref 0), some (.ref 92), some (.ref 123), some (.int (nI j)), w5, w6] [] (124, z_r0, σ, τ) := by
  obtain ⟨n, e, tc, hR⟩ := id h
  refine lw_outs (τ1 := τ) (σ1 := σ) (rc' := 0) (rs' := 0) (mc' := 0) (ms' := 0) (k := 0) (y := σ 9 2) sp_outs (by rw [hR.2.2.2.1.out]; exact sp_routs) (fun w5 w6 => K _ _ w5 w6 h.k)
theorem cs_out (h : INV σ) (hj : j + 4 ≤ L) (hL : L ≤ 2048) (K : ∀ (σ2 : Nat → Nat → Int32) (τ2 : Nat → Nat → Int64) (w5 w6 : Option Value), INV σ2 → z_Y (z_lc b L xs) Qx b M_L_law (D + 8) mc ms rc rs 709 [none, some (.ref 0), some (.ref 92), some (.ref 123), some (.int (nI j)), w5, w6] [] (124, z_r0, σ2, τ2)) : z_Y (z_lc b L xs) Qx b M_L_law (D + 8) mc ms (rc + 1) (rs + 6) 461 [none, some (.ref 0), some (.ref 92), some (.ref 123), some (.int (nI j)), w5, w6] [] (124, z_r0, σ, τ) := by
  obtain ⟨n, e, tc, hR⟩ := id h
  have hG := hR.2.2.2.1
  by_cases hx : ¬ xs (j + 1) < 0 ∧ ¬ nI 30 ≤ xs (j + 1) ∧ ¬ σ 9 2 ≤ xs (j + 1)
  · obtain ⟨v, hv, ev⟩ : ∃ v, v < 30 ∧ xs (j + 1) = nI v := ⟨tN (xs (j + 1)), (tN_lt hx.1 (by omega)).mp (i_nle.mp hx.2.1), nI_tN hx.1⟩
    have h3 := hx.2.2
    rw [ev] at h3
    obtain ⟨q, q1, q2⟩ := hG.e30
    refine lw_out (k := 0) (mc' := 0) (ms' := 0) (y := σ 98 (v)) hj hL (by rw [ev]; exact lh_out (sp_out hv h3 q2 q1)) (by rw [ev]; exact sp_rout hv (by rw [← hG.out]; exact h3)) ?_ (fun _ => ?_) ⟨by omega, by omega⟩ (fun w5 w6 => K _ _ w5 w6 h.k)
    · rw [z_up_s]
    · rw [z_up_s, hG.at hv h3 q2 q1]
  · refine lw_out (k := 1) (mc' := 1) (ms' := 6) (y := 0) hj hL (lx_out (sx_out hx)) (sp_rout_no ?_) ?_ (fun q => absurd q (by decide)) ⟨by omega, by omega⟩ (fun w5 w6 => K _ _ w5 w6 h.k)
    · rintro ⟨q1, q2⟩
      rw [← hG.out]
      exact Classical.byContradiction fun w => hx ⟨q1, fun q => q2 (i_le (by omega) |>.mp q), w⟩
    · rw [z_up_s]
theorem sev {x : Int32} (h : ¬ (x.toInt < 0 ∨ 6 < x.toInt)) : x = 0 ∨ x = 1 ∨ x = nI 2 ∨ x = nI 3 ∨ x = nI 4 ∨ x = nI 5 ∨ x = nI 6 := by
  have e : x = nI (tN x) := nI_tN (by rw [Int32.lt_iff_toInt_lt, Int32.toInt_zero]; omega)
  have t : tN x = x.toInt.toNat := rfl
  have : tN x = 0 ∨ tN x = 1 ∨ tN x = 2 ∨ tN x = 3 ∨ tN x = 4 ∨ tN x = 5 ∨ tN x = 6 := by omega
  rw [e]
  rcases this with q | q | q | q | q | q | q <;> rw [q]
  · exact Or.inl rfl
  · exact Or.inr (Or.inl rfl)
  · exact Or.inr (Or.inr (Or.inl rfl))
  · exact Or.inr (Or.inr (Or.inr (Or.inl rfl)))
  · exact Or.inr (Or.inr (Or.inr (Or.inr (Or.inl rfl))))
  · exact Or.inr (Or.inr (Or.inr (Or.inr (Or.inr (Or.inl rfl)))))
  · exact Or.inr (Or.inr (Or.inr (Or.inr (Or.inr (Or.inr rfl)))))
theorem sev_no {x : Int32} {k : Nat} (hk : k < 2 ^ 31) (h : x.toInt < 0 ∨ (k : Int) < x.toInt) : ¬ (¬ x < 0 ∧ ¬ nI k < x) := by
  rw [Int32.lt_iff_toInt_lt, Int32.lt_iff_toInt_lt, Int32.toInt_zero, nI_toInt hk]
  omega
theorem cs_count (h : INV σ) (hj : j + 4 ≤ L) (hL : L ≤ 2048) (K : ∀ (σ2 : Nat → Nat → Int32) (τ2 : Nat → Nat → Int64) (w5 w6 : Option Value), INV σ2 → z_Y (z_lc b L xs) Qx b M_L_law (D + 8) mc ms rc rs 709 [none, some (.ref 0), some (.ref 92), some (.ref 123), some (.int (nI j)), w5, w6] [] (124, z_r0, σ2, τ2)) : z_Y (z_lc b L xs) Qx b M_L_law (D + 8) mc ms (rc + 1) (rs + 6) 517 [none, some (.ref 0), some (.ref 92), some (.ref 123), some (.int (nI j)), w5, w6] [] (124, z_r0, σ, τ) := by
  obtain ⟨n, e, tc, hR⟩ := id h
  obtain ⟨t0, t1, t2, t3⟩ := hR.2.2.2.2.1
  by_cases hx : (xs (j + 1)).toInt < 0 ∨ 6 < (xs (j + 1)).toInt
  · refine lw_count (k := 1) (mc' := 1) (ms' := 6) (y := 0) hj hL (lx_count (sx_count hx)) (sp_rcount_no (sev_no (k := 6) (by omega) hx)) ?_ (fun q => absurd q (by decide)) ⟨by omega, by omega⟩ (fun w5 w6 => K _ _ w5 w6 h.k)
    rw [z_up_s]
  · have fin : ∀ (x y : Int32), (∀ d, z_MV M_X10_count (d + 1) 0 0 [.ref 0, .int (xs (j + 1))] (124, z_r0, σ, τ) (some (.int x)) (124, z_r0, σ, τ)) → (∀ d (τ1 : Nat → Nat → Int64), z_MV M_X11_count (d + 1) 0 0 [.ref 92, .int (xs (j + 1))] (124, z_r0, σ, τ1) (some (.int y)) (124, z_r0, z_up σ 92 0 0, τ1)) → x = y → z_Y (z_lc b L xs) Qx b M_L_law (D + 8) mc ms (rc + 1) (rs + 6) 517 [none, some (.ref 0), some (.ref 92), some (.ref 123), some (.int (nI j)), w5, w6] [] (124, z_r0, σ, τ) := by
      intro x y h1 h2 he
      refine lw_count (k := 0) (mc' := 0) (ms' := 0) (y := y) hj hL (lh_count (h1 (D + 5))) (h2 (D + 6) _) ?_ (fun _ => ?_) ⟨by omega, by omega⟩ (fun w5 w6 => K _ _ w5 w6 h.k)
      · rw [z_up_s]
      · rw [z_up_s, he]
    rcases sev hx with q | q | q | q | q | q | q <;> rw [q] at fin
    · refine fin _ _ (fun d => sp_count_0) (fun d τ1 => sp_rcount_0) ?_
      rcases hR.2.2.2.2.2.2.2.2.1 with ⟨q1, q2, _⟩ | ⟨q1, _, q2, q3, _⟩ | ⟨a, q1, _, q2, q3, q4, _⟩
      · rw [if_pos (Or.inl q1), q2]
      · rw [if_pos (Or.inr (by rw [q2]; decide)), q3]
      · rw [if_neg (fun w => w.elim (fun w => by rw [q1] at w; exact absurd w (by decide)) (fun w => w q2)), q3, q4]
    · exact fin _ _ (fun d => sp_count_1) (fun d τ1 => sp_rcount_1) t0
    · exact fin _ _ (fun d => sp_count_2) (fun d τ1 => sp_rcount_2) t1
    · exact fin _ _ (fun d => sp_count_3) (fun d τ1 => sp_rcount_3) t2
    · exact fin _ _ (fun d => sp_count_4) (fun d τ1 => sp_rcount_4) t3
    · exact fin _ _ (fun d => sp_count_5) (fun d τ1 => sp_rcount_5) (hR.2.2.2.2.2.2.1.2.1.trans hR.2.2.2.2.2.2.1.2.2.1.symm)
    · refine fin _ _ (fun d => sp_count_6) (fun d τ1 => sp_rcount_6) ?_
      rcases hR.2.2.2.2.2.2.2.1 with ⟨q1, q2⟩ | ⟨p, hp, q1, q2, _⟩
      · rw [b2i_f (fun w => w q1), b2i_f (fun w => w (by rw [q2]; decide))]
      · have := hR.1.1
        rw [b2i_t (by rw [q1]; exact nI_m1 (by omega)), b2i_t (by rw [q2]; exact nI_pos (by omega))]
theorem cs_place (h : INV σ) (hj : j + 4 ≤ L) (hL : L ≤ 2048) (K : ∀ (σ2 : Nat → Nat → Int32) (τ2 : Nat → Nat → Int64) (w5 w6 : Option Value), INV σ2 → z_Y (z_lc b L xs) Qx b M_L_law (D + 8) mc ms rc rs 709 [none, some (.ref 0), some (.ref 92), some (.ref 123), some (.int (nI j)), w5, w6] [] (124, z_r0, σ2, τ2)) : z_Y (z_lc b L xs) Qx b M_L_law (D + 8) mc ms (rc + 1) (rs + 6) 573 [none, some (.ref 0), some (.ref 92), some (.ref 123), some (.int (nI j)), w5, w6] [] (124, z_r0, σ, τ) := by
  obtain ⟨n, e, tc, hR⟩ := id h
  obtain ⟨n40, n1, n2, _⟩ := hR.1
  by_cases hx : ¬ xs (j + 1) < 0 ∧ xs (j + 1) < nI n ∧ (xs (j + 2) = 0 ∨ xs (j + 2) = 1)
  · obtain ⟨v, hv, ev⟩ : ∃ v, v < n ∧ xs (j + 1) = nI v := ⟨tN (xs (j + 1)), (tN_lt hx.1 (by omega)).mp hx.2.1, nI_tN hx.1⟩
    obtain ⟨n', rfl⟩ : ∃ n', n = n' + 1 := ⟨n - 1, by omega⟩
    obtain ⟨p1, p2⟩ := hR.2.2.2.2.2.1.1 (v) (by omega)
    rcases hx.2.2 with q | q
    · refine lw_place (k := 0) (mc' := 0) (ms' := 0) (y := σ 99 (v)) hj hL (by rw [ev, q]; exact lh_place (sp_place_0 n1 n40 hv)) (by rw [ev, q]; exact sp_rplace_0 n2 (by omega) (by omega)) ?_ (fun _ => ?_) ⟨by omega, by omega⟩ (fun w5 w6 => K _ _ w5 w6 h.k)
      · rw [z_up_s]
      · rw [z_up_s, p1]
    · refine lw_place (k := 0) (mc' := 0) (ms' := 0) (y := σ 100 (v)) hj hL (by rw [ev, q]; exact lh_place (sp_place_1 n1 n40 hv)) (by rw [ev, q]; exact sp_rplace_1 n2 (by omega) (by omega)) ?_ (fun _ => ?_) ⟨by omega, by omega⟩ (fun w5 w6 => K _ _ w5 w6 h.k)
      · rw [z_up_s]
      · rw [z_up_s, p2]
  · have y01 : ∀ y : Int32, ¬ y < 0 → y ≤ 1 → y = 0 ∨ y = 1 := by
      intro y h1 h2
      have e := nI_tN h1
      have t : tN y = y.toInt.toNat := rfl
      rw [Int32.le_iff_toInt_le, show (1 : Int32).toInt = 1 from rfl] at h2
      have : tN y = 0 ∨ tN y = 1 := by omega
      rw [e]
      rcases this with q | q <;> rw [q]
      · exact Or.inl rfl
      · exact Or.inr rfl
    have h' : xs (j + 1) < 0 ∨ σ 1 2 ≤ xs (j + 1) ∨ xs (j + 2) < 0 ∨ ¬ xs (j + 2) ≤ 1 := by
      rw [n1]
      refine Classical.byContradiction fun w => hx ⟨fun z => w (Or.inl z), i_nle.mp fun z => w (Or.inr (Or.inl z)), y01 _ (fun z => w (Or.inr (Or.inr (Or.inl z)))) (Classical.byContradiction fun z => w (Or.inr (Or.inr (Or.inr z))))⟩
    refine lw_place (k := 1) (mc' := 1) (ms' := 6) (y := 0) hj hL (lx_place (sx_place h')) (sp_rplace_no ?_) ?_ (fun q => absurd q (by decide)) ⟨by omega, by omega⟩ (fun w5 w6 => K _ _ w5 w6 h.k)
    · rintro ⟨⟨q1, q2⟩, q3, q4⟩
      refine hx ⟨q1, ?_, y01 _ q3 (i_nlt.mp q4)⟩
      rw [n2] at q2
      cases n with
      | zero =>
        exfalso
        refine q2 ?_
        rw [nI_0]
        have : (0 : Int32) - 1 < 0 := by decide
        have q := i_nlt.mp q1
        rw [Int32.lt_iff_toInt_lt] at this ⊢
        rw [Int32.le_iff_toInt_le] at q
        omega
      | succ n =>
        rw [nI_pred] at q2
        exact i_nle.mp fun q => q2 (i_le (by omega) |>.mp q)
    · rw [z_up_s]
theorem cs_trace (h : INV σ) (hj : j + 4 ≤ L) (hL : L ≤ 2048) (K : ∀ (σ2 : Nat → Nat → Int32) (τ2 : Nat → Nat → Int64) (w5 w6 : Option Value), INV σ2 → z_Y (z_lc b L xs) Qx b M_L_law (D + 8) mc ms rc rs 709 [none, some (.ref 0), some (.ref 92), some (.ref 123), some (.int (nI j)), w5, w6] [] (124, z_r0, σ2, τ2)) : z_Y (z_lc b L xs) Qx b M_L_law (D + 8) mc ms (rc + 1) (rs + 6) 641 [none, some (.ref 0), some (.ref 92), some (.ref 123), some (.int (nI j)), w5, w6] [] (124, z_r0, σ, τ) := by
  obtain ⟨n, e, tc, hR⟩ := id h
  obtain ⟨t4, t1, t2, _⟩ := hR.2.2.2.2.2.2.1
  by_cases hx : ¬ xs (j + 1) < 0 ∧ xs (j + 1) < nI tc
  · obtain ⟨v, hv, ev⟩ : ∃ v, v < tc ∧ xs (j + 1) = nI v := ⟨tN (xs (j + 1)), (tN_lt hx.1 (by omega)).mp hx.2, nI_tN hx.1⟩
    obtain ⟨tc', rfl⟩ : ∃ tc', tc = tc' + 1 := ⟨tc - 1, by omega⟩
    obtain ⟨_, _, _, _, _, _, _, _, _, _, _, _, _, ⟨p, _, p1, p2, _⟩, ⟨c1, c2, c3, c4, c5⟩, _⟩ := hR.2.2.2.2.2.2.2.2.2 _ hv
    by_cases hy : (xs (j + 2)).toInt < 0 ∨ 5 < (xs (j + 2)).toInt
    · refine lw_trace (k := 1) (mc' := 1) (ms' := 6) (y := 0) hj hL (by rw [ev]; exact lx_trace (sx_trace2 t1 t4 hv (by omega) hy)) (sp_rtrace_no (fun w => sev_no (k := 5) (by omega) hy w.2)) ?_ (fun q => absurd q (by decide)) ⟨by omega, by omega⟩ (fun w5 w6 => K _ _ w5 w6 h.k)
      rw [z_up_s]
    · have fin : ∀ (x y : Int32), (∀ d, z_MV M_X10_trace (d + 2) 0 0 [.ref 0, .int (nI (v)), .int (xs (j + 2))] (124, z_r0, σ, τ) (some (.int x)) (124, z_r0, σ, τ)) → (∀ d (τ1 : Nat → Nat → Int64), z_MV M_X11_trace (d + 1) 0 0 [.ref 92, .int (nI (v)), .int (xs (j + 2))] (124, z_r0, σ, τ1) (some (.int y)) (124, z_r0, z_up σ 92 0 0, τ1)) → x = y → z_Y (z_lc b L xs) Qx b M_L_law (D + 8) mc ms (rc + 1) (rs + 6) 641 [none, some (.ref 0), some (.ref 92), some (.ref 123), some (.int (nI j)), w5, w6] [] (124, z_r0, σ, τ) := by
        intro x y h1 h2 he
        rw [← ev] at h1 h2
        refine lw_trace (k := 0) (mc' := 0) (ms' := 0) (y := y) hj hL (lh_trace (h1 (D + 4))) (h2 (D + 6) _) ?_ (fun _ => ?_) ⟨by omega, by omega⟩ (fun w5 w6 => K _ _ w5 w6 h.k)
        · rw [z_up_s]
        · rw [z_up_s, he]
      rcases sev (x := xs (j + 2)) (fun w => hy (w.elim Or.inl (fun w => Or.inr (by omega)))) with q | q | q | q | q | q | q
      · rw [q] at fin; exact fin _ _ (fun d => sp_trace_0 t1 t4 hv (by omega)) (fun d τ1 => sp_rtrace_0 t2 (by omega) (by omega)) (p1.trans p2.symm)
      · rw [q] at fin; exact fin _ _ (fun d => sp_trace_1 t1 t4 hv (by omega)) (fun d τ1 => sp_rtrace_1 t2 (by omega) (by omega)) c1
      · rw [q] at fin; exact fin _ _ (fun d => sp_trace_2 t1 t4 hv (by omega)) (fun d τ1 => sp_rtrace_2 t2 (by omega) (by omega)) c2
      · rw [q] at fin; exact fin _ _ (fun d => sp_trace_3 t1 t4 hv (by omega)) (fun d τ1 => sp_rtrace_3 t2 (by omega) (by omega)) c3
      · rw [q] at fin; exact fin _ _ (fun d => sp_trace_4 t1 t4 hv (by omega)) (fun d τ1 => sp_rtrace_4 t2 (by omega) (by omega)) c4
      · rw [q] at fin; exact fin _ _ (fun d => sp_trace_5 t1 t4 hv (by omega)) (fun d τ1 => sp_rtrace_5 t2 (by omega) (by omega)) c5
      · exfalso
        rw [q] at hy
        exact hy (Or.inr (by rw [nI_toInt (by omega)]; decide))
  · have h' : xs (j + 1) < 0 ∨ ¬ xs (j + 1) < σ 0 8 := by
      rw [t1]
      exact Classical.byContradiction fun w => hx ⟨fun z => w (Or.inl z), Classical.byContradiction fun z => w (Or.inr z)⟩
    refine lw_trace (k := 1) (mc' := 1) (ms' := 6) (y := 0) hj hL (lx_trace (sx_trace h')) (sp_rtrace_no ?_) ?_ (fun q => absurd q (by decide)) ⟨by omega, by omega⟩ (fun w5 w6 => K _ _ w5 w6 h.k)
    · rintro ⟨⟨q1, q2⟩, _⟩
      refine hx ⟨q1, ?_⟩
      rw [t2] at q2
      cases tc with
      | zero =>
        exfalso
        refine q2 ?_
        rw [nI_0]
        have : (0 : Int32) - 1 < 0 := by decide
        have q := i_nlt.mp q1
        rw [Int32.lt_iff_toInt_lt] at this ⊢
        rw [Int32.le_iff_toInt_le] at q
        omega
      | succ n =>
        rw [nI_pred] at q2
        exact i_nle.mp fun q => q2 (i_le (by omega) |>.mp q)
    · rw [z_up_s]
end
