/-! PART 62: the law: begin, the loop -/
set_option maxRecDepth 100000 in
set_option maxHeartbeats 4000000 in
theorem lw_begin0 {d : Nat} {σ σ1 σ2 : Nat → Nat → Int32} {τ τ1 : Nat → Nat → Int64} {Qx : z_QT} {b L j mc ms rc rs rc' rs' mc' ms' : Nat} {xs : Nat → Int32} {k y : Int32} {w5 w6 : Option Value} (h3 : xs (j + 3) = 0) (hj : j + 4 ≤ L) (hL : L ≤ 2048) (hsp : z_HV M_L_begin H_L_begin d mc' ms' [.ref 0, .int (xs (j + 1)), .int (xs (j + 2)), .int 0, .ref 123] (124, z_r0, σ, τ) (some (.int k)) (124, z_r0, σ1, τ1)) (hrp : z_MV M_X11_begin d 0 0 [.ref 92, .int (xs (j + 1)), .int (xs (j + 2)), .int 0] (124, z_r0, σ1, τ1) (some (.int y)) (124, z_r0, σ2, τ1)) (hk : σ2 92 0 = k) (hy : k = 0 → τ1 123 0 = if y = 0 then 0 else 1) (hbud : mc' + rc' ≤ rc ∧ ms' + rs' ≤ rs) (kk : ∀ w5 w6 : Option Value, z_Y (z_lc b L xs) Qx b M_L_law (d + 1) mc ms rc' rs' 709 [none, some (.ref 0), some (.ref 92), some (.ref 123), some (.int (nI j)), w5, w6] [] (124, z_r0, σ2, τ1)) : z_Y (z_lc b L xs) Qx b M_L_law (d + 1) mc ms rc rs 164 [none, some (.ref 0), some (.ref 92), some (.ref 123), some (.int (nI j)), w5, w6] [] (124, z_r0, σ, τ) := by
  refine zy_aload_n dL_law_164 rfl rfl ?_
  refine zy_scr (k := 1) (j := j) dL_law_165 dL_law_166 dL_law_168 dL_law_169 dL_law_170 (by decide) rfl (by omega) hL ?_
  refine zy_scr (k := 2) (j := j) dL_law_171 dL_law_172 dL_law_174 dL_law_175 dL_law_176 (by decide) rfl (by omega) hL ?_
  refine zy_scr (k := 3) (j := j) dL_law_177 dL_law_178 dL_law_180 dL_law_181 dL_law_182 (by decide) rfl (by omega) hL ?_
  refine zy_if_eq (tgt := 190) dL_law_183 (by decide) (fun _ => ?_) (fun c_ => absurd (h3) c_)
  refine zy_iconst (v := 0) dL_law_190 (by decide) ?_
  refine zy_aload_n dL_law_191 rfl rfl ?_
  refine zy_callH (rc' := rc') (rs' := rs') dL_law_192 ml_L_59 hsp rfl rfl (Nat.le_of_ble_eq_true rfl) hbud ?_
  refine zy_istore dL_law_195 (by decide) (by decide) ?_
  show z_Y _ _ _ _ _ _ _ _ _ _ [_, _, _, _, _, _, _] _ _
  refine zy_aload_n dL_law_197 rfl rfl ?_
  refine zy_scr (k := 1) (j := j) dL_law_198 dL_law_199 dL_law_201 dL_law_202 dL_law_203 (by decide) rfl (by omega) hL ?_
  refine zy_scr (k := 2) (j := j) dL_law_204 dL_law_205 dL_law_207 dL_law_208 dL_law_209 (by decide) rfl (by omega) hL ?_
  refine zy_scr (k := 3) (j := j) dL_law_210 dL_law_211 dL_law_213 dL_law_214 dL_law_215 (by decide) rfl (by omega) hL ?_
  refine zy_if_eq (tgt := 223) dL_law_216 (by decide) (fun _ => ?_) (fun c_ => absurd (h3) c_)
  refine zy_iconst (v := 0) dL_law_223 (by decide) ?_
  refine zy_cV1 dL_law_224 ml_L_62 (hrp) rfl ⟨by decide, rfl⟩ rfl rfl (Nat.le_of_ble_eq_true rfl) ?_
  refine zy_istore dL_law_227 (by decide) (by decide) ?_
  show z_Y _ _ _ _ _ _ _ _ _ _ [_, _, _, _, _, _, _] _ _
  refine zy_aload_n dL_law_229 rfl rfl ?_
  refine zy_cV1 dL_law_230 ml_L_55 (sp_thrown) rfl ⟨by decide, rfl⟩ rfl rfl (Nat.le_of_ble_eq_true rfl) ?_
  refine zy_iload dL_law_233 rfl ?_
  refine zy_icmp_eq (tgt := 240) dL_law_235 (by decide) (fun _ => ?_) (fun c_ => absurd (hk) c_)
  refine zy_iload dL_law_240 rfl ?_
  refine zy_if_ne (tgt := 264) dL_law_242 (by decide) (fun c242 => ?_) (fun c242 => ?_)
  · refine zy_goto (tgt := 709) dL_law_264 (by decide) ?_
    exact kk _ _
  · refine zy_aload_n dL_law_245 rfl rfl ?_
    refine zy_iconst (v := 0) dL_law_246 (by decide) ?_
    refine zy_lald (j := 0) dL_law_247 rfl nI_0.symm (by decide) rfl ?_
    refine zy_iload dL_law_248 rfl ?_
    refine zy_if_eq (tgt := 257) dL_law_250 (by decide) (fun c250 => ?_) (fun c250 => ?_)
    · refine zy_lconst (v := 0) dL_law_257 (by decide) ?_
      refine zy_lcmp dL_law_258 ?_
      refine zy_if_eq (tgt := 264) dL_law_259 (by decide) (fun _ => ?_) (fun c_ => absurd (lg_same ((hy c242).trans (if_pos c250))) c_)
      refine zy_goto (tgt := 709) dL_law_264 (by decide) ?_
      exact kk _ _
    · refine zy_lconst (v := 1) dL_law_253 (by decide) ?_
      refine zy_goto (tgt := 258) dL_law_254 (by decide) ?_
      refine zy_lcmp dL_law_258 ?_
      refine zy_if_eq (tgt := 264) dL_law_259 (by decide) (fun _ => ?_) (fun c_ => absurd (lg_same ((hy c242).trans (if_neg c250))) c_)
      refine zy_goto (tgt := 709) dL_law_264 (by decide) ?_
      exact kk _ _
set_option maxRecDepth 100000 in
set_option maxHeartbeats 4000000 in
theorem lw_begin1 {d : Nat} {σ σ1 σ2 : Nat → Nat → Int32} {τ τ1 : Nat → Nat → Int64} {Qx : z_QT} {b L j mc ms rc rs rc' rs' mc' ms' : Nat} {xs : Nat → Int32} {k y : Int32} {w5 w6 : Option Value} (h3 : ¬ xs (j + 3) = 0) (hj : j + 4 ≤ L) (hL : L ≤ 2048) (hsp : z_HV M_L_begin H_L_begin d mc' ms' [.ref 0, .int (xs (j + 1)), .int (xs (j + 2)), .int 1, .ref 123] (124, z_r0, σ, τ) (some (.int k)) (124, z_r0, σ1, τ1)) (hrp : z_MV M_X11_begin d 0 0 [.ref 92, .int (xs (j + 1)), .int (xs (j + 2)), .int 1] (124, z_r0, σ1, τ1) (some (.int y)) (124, z_r0, σ2, τ1)) (hk : σ2 92 0 = k) (hy : k = 0 → τ1 123 0 = if y = 0 then 0 else 1) (hbud : mc' + rc' ≤ rc ∧ ms' + rs' ≤ rs) (kk : ∀ w5 w6 : Option Value, z_Y (z_lc b L xs) Qx b M_L_law (d + 1) mc ms rc' rs' 709 [none, some (.ref 0), some (.ref 92), some (.ref 123), some (.int (nI j)), w5, w6] [] (124, z_r0, σ2, τ1)) : z_Y (z_lc b L xs) Qx b M_L_law (d + 1) mc ms rc rs 164 [none, some (.ref 0), some (.ref 92), some (.ref 123), some (.int (nI j)), w5, w6] [] (124, z_r0, σ, τ) := by
  refine zy_aload_n dL_law_164 rfl rfl ?_
  refine zy_scr (k := 1) (j := j) dL_law_165 dL_law_166 dL_law_168 dL_law_169 dL_law_170 (by decide) rfl (by omega) hL ?_
  refine zy_scr (k := 2) (j := j) dL_law_171 dL_law_172 dL_law_174 dL_law_175 dL_law_176 (by decide) rfl (by omega) hL ?_
  refine zy_scr (k := 3) (j := j) dL_law_177 dL_law_178 dL_law_180 dL_law_181 dL_law_182 (by decide) rfl (by omega) hL ?_
  refine zy_if_eq (tgt := 190) dL_law_183 (by decide) (fun c_ => absurd c_ (h3)) (fun _ => ?_)
  refine zy_iconst (v := 1) dL_law_186 (by decide) ?_
  refine zy_goto (tgt := 191) dL_law_187 (by decide) ?_
  refine zy_aload_n dL_law_191 rfl rfl ?_
  refine zy_callH (rc' := rc') (rs' := rs') dL_law_192 ml_L_59 hsp rfl rfl (Nat.le_of_ble_eq_true rfl) hbud ?_
  refine zy_istore dL_law_195 (by decide) (by decide) ?_
  show z_Y _ _ _ _ _ _ _ _ _ _ [_, _, _, _, _, _, _] _ _
  refine zy_aload_n dL_law_197 rfl rfl ?_
  refine zy_scr (k := 1) (j := j) dL_law_198 dL_law_199 dL_law_201 dL_law_202 dL_law_203 (by decide) rfl (by omega) hL ?_
  refine zy_scr (k := 2) (j := j) dL_law_204 dL_law_205 dL_law_207 dL_law_208 dL_law_209 (by decide) rfl (by omega) hL ?_
  refine zy_scr (k := 3) (j := j) dL_law_210 dL_law_211 dL_law_213 dL_law_214 dL_law_215 (by decide) rfl (by omega) hL ?_
  refine zy_if_eq (tgt := 223) dL_law_216 (by decide) (fun c_ => absurd c_ (h3)) (fun _ => ?_)
  refine zy_iconst (v := 1) dL_law_219 (by decide) ?_
  refine zy_goto (tgt := 224) dL_law_220 (by decide) ?_
  refine zy_cV1 dL_law_224 ml_L_62 (hrp) rfl ⟨by decide, rfl⟩ rfl rfl (Nat.le_of_ble_eq_true rfl) ?_
  refine zy_istore dL_law_227 (by decide) (by decide) ?_
  show z_Y _ _ _ _ _ _ _ _ _ _ [_, _, _, _, _, _, _] _ _
  refine zy_aload_n dL_law_229 rfl rfl ?_
  refine zy_cV1 dL_law_230 ml_L_55 (sp_thrown) rfl ⟨by decide, rfl⟩ rfl rfl (Nat.le_of_ble_eq_true rfl) ?_
  refine zy_iload dL_law_233 rfl ?_
  refine zy_icmp_eq (tgt := 240) dL_law_235 (by decide) (fun _ => ?_) (fun c_ => absurd (hk) c_)
  refine zy_iload dL_law_240 rfl ?_
  refine zy_if_ne (tgt := 264) dL_law_242 (by decide) (fun c242 => ?_) (fun c242 => ?_)
  · refine zy_goto (tgt := 709) dL_law_264 (by decide) ?_
    exact kk _ _
  · refine zy_aload_n dL_law_245 rfl rfl ?_
    refine zy_iconst (v := 0) dL_law_246 (by decide) ?_
    refine zy_lald (j := 0) dL_law_247 rfl nI_0.symm (by decide) rfl ?_
    refine zy_iload dL_law_248 rfl ?_
    refine zy_if_eq (tgt := 257) dL_law_250 (by decide) (fun c250 => ?_) (fun c250 => ?_)
    · refine zy_lconst (v := 0) dL_law_257 (by decide) ?_
      refine zy_lcmp dL_law_258 ?_
      refine zy_if_eq (tgt := 264) dL_law_259 (by decide) (fun _ => ?_) (fun c_ => absurd (lg_same ((hy c242).trans (if_pos c250))) c_)
      refine zy_goto (tgt := 709) dL_law_264 (by decide) ?_
      exact kk _ _
    · refine zy_lconst (v := 1) dL_law_253 (by decide) ?_
      refine zy_goto (tgt := 258) dL_law_254 (by decide) ?_
      refine zy_lcmp dL_law_258 ?_
      refine zy_if_eq (tgt := 264) dL_law_259 (by decide) (fun _ => ?_) (fun c_ => absurd (lg_same ((hy c242).trans (if_neg c250))) c_)
      refine zy_goto (tgt := 709) dL_law_264 (by decide) ?_
      exact kk _ _
theorem lw_gt {L j : Nat} (hL : L ≤ 2048) (hj : j ≤ 4096) : nI L - nI 4 < nI j ↔ L < j + 4 := by
  rcases Nat.lt_or_ge L 4 with h | h
  · refine ⟨fun _ => by omega, fun _ => ?_⟩
    have h0 : nI L - nI 4 < 0 := by
      rcases (show L = 0 ∨ L = 1 ∨ L = 2 ∨ L = 3 by omega) with rfl | rfl | rfl | rfl <;> decide +kernel
    have h1 : ¬ nI j < 0 := nI_pos (by omega)
    rw [Int32.lt_iff_toInt_lt] at h0 h1 ⊢
    omega
  · rw [pk_sub h]
    constructor
    · intro q
      rcases Nat.lt_or_ge (L - 4) j with z | z
      · omega
      · exact absurd q (nI_nlt z (by omega))
    · intro q
      exact nI_lt (by omega) (by omega)
set_option maxRecDepth 100000 in
set_option maxHeartbeats 4000000 in
theorem lw_loop {d : Nat} {Qx : z_QT} {b L mc ms : Nat} {xs : Nat → Int32} {INV : (Nat → Nat → Int32) → Prop} (hL : L ≤ 2048)
    (hcase : ∀ (j : Nat) (σ : Nat → Nat → Int32) (τ : Nat → Nat → Int64) (w5 w6 : Option Value) (rc rs : Nat), INV σ → j + 4 ≤ L → (∀ (σ2 : Nat → Nat → Int32) (τ2 : Nat → Nat → Int64) (w5 w6 : Option Value), INV σ2 → z_Y (z_lc b L xs) Qx b M_L_law (d + 1) mc ms rc rs 709 [none, some (.ref 0), some (.ref 92), some (.ref 123), some (.int (nI j)), w5, w6] [] (124, z_r0, σ2, τ2)) → z_Y (z_lc b L xs) Qx b M_L_law (d + 1) mc ms (rc + 1) (rs + 6) 39 [none, some (.ref 0), some (.ref 92), some (.ref 123), some (.int (nI j)), w5, w6] [.int (xs j &&& nI 15)] (124, z_r0, σ, τ))
    (hret : ∀ (σ : Nat → Nat → Int32) (τ : Nat → Nat → Int64) (lv : List (Option Value)) (rc rs : Nat), z_Y (z_lc b L xs) Qx b M_L_law (d + 1) mc ms rc rs 716 lv [.int 1] (124, z_r0, σ, τ)) :
    ∀ (m j : Nat) (σ : Nat → Nat → Int32) (τ : Nat → Nat → Int64) (w5 w6 : Option Value), INV σ → L < j + 4 * m + 4 → j ≤ 2052 → z_Y (z_lc b L xs) Qx b M_L_law (d + 1) mc ms m (6 * m) 23 [none, some (.ref 0), some (.ref 92), some (.ref 123), some (.int (nI j)), w5, w6] [] (124, z_r0, σ, τ) := by
  intro m
  induction m with
  | zero =>
    intro j σ τ w5 w6 hI hm hj
    refine zy_iload dL_law_23 rfl ?_
    refine zy_len dL_law_25 dL_law_26 dL_law_27 dL_law_28 ?_
    refine zy_icmp_gt (tgt := 715) dL_law_29 (by decide) (fun _ => ?_) (fun c => absurd ((lw_gt hL (by omega)).mpr (by omega)) c)
    refine zy_iconst (v := 1) dL_law_715 (by decide) ?_
    exact hret _ _ _ _ _
  | succ m ih =>
    intro j σ τ w5 w6 hI hm hj
    refine zy_iload dL_law_23 rfl ?_
    refine zy_len dL_law_25 dL_law_26 dL_law_27 dL_law_28 ?_
    refine zy_icmp_gt (tgt := 715) dL_law_29 (by decide) (fun _ => ?_) (fun c => ?_)
    · refine zy_iconst (v := 1) dL_law_715 (by decide) ?_
      exact hret _ _ _ _ _
    · have hlt : j + 4 ≤ L := by
        rcases Nat.lt_or_ge L (j + 4) with q | q
        · exact absurd ((lw_gt hL (by omega)).mpr q) c
        · exact q
      refine zy_scr0 (j := j) dL_law_32 dL_law_33 dL_law_35 rfl (by omega) hL ?_
      refine zy_bipush (v := nI 15) dL_law_36 (by decide) ?_
      refine zy_iand dL_law_38 rfl ?_
      refine hcase j σ τ w5 w6 m (6 * m) hI hlt (fun σ2 τ2 w5 w6 hI2 => ?_)
      refine zy_iinc (z := nI (j + 4)) dL_law_709 rfl (show nI j + nI 4 = nI (j + 4) from nI_add j 4) (by decide) (by decide) ?_
      show z_Y _ _ _ _ _ _ _ _ _ _ [_, _, _, _, _, _, _] _ _
      refine zy_goto (tgt := 23) dL_law_712 (by decide) ?_
      exact ih (j + 4) σ2 τ2 w5 w6 hI2 (by omega) (by omega)
