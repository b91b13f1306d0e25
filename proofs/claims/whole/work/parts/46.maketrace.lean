/-! PART 46: TraceTierModel.makeTrace -/
def mA (σ : Nat → Nat → Int32) : Nat → Nat → Nat → Int32
  | 0 => z_up (z_up σ 92 35 0) 92 44 0
  | l + 1 => z_up (vlN (mA σ l) l 1 (nI l) 0 0) 120 l (nI l)
theorem mA_35 (σ : Nat → Nat → Int32) (l : Nat) : mA σ l 92 35 = nI l := by
  cases l with
  | zero => simp [mA, z_up, nI_0]
  | succ l => simp [mA, vlN, z_up]
theorem mA_114 (σ : Nat → Nat → Int32) (l : Nat) : ∀ j, j < l → mA σ l 114 j = nI j := by
  induction l with
  | zero => intro j h; omega
  | succ l ih =>
    intro j h
    by_cases hj : j = l
    · subst hj; simp [mA, vlN, z_up]
    · have := ih j (by omega)
      simp [mA, vlN, z_up, hj, this]
/-- the recorded instructions, one after the other: what through makes of them -/
def mB (F : Nat → Nat → Nat → Int32) (G : Nat → Nat → Nat → Int32) (R : Nat → Int32) (n : Nat) (d : Nat) (τ : Nat → Nat → Int64) : Prop := ∀ j, j < n → z_MV M_X11_through (d + 2) 0 0 [.ref 92, .int (nI j)] (124, z_r0, F j, τ) (some (.int (R j))) (124, z_r0, G j, τ) ∧ F (j + 1) = z_up (G j) 122 j (R j)
def mC (σ : Nat → Nat → Int32) (t : Nat) : Nat → Nat → Nat → Int32
  | 0 => z_up σ 112 t 0
  | l + 1 => z_up (z_up (z_up (mC σ t l) 117 (tN (σ 120 l)) 1) 118 l (b2i (σ 120 l = nI l))) 112 t (mC σ t l 112 t + b2i (σ 120 l = nI l))
theorem mC_ne {σ : Nat → Nat → Int32} {t l b : Nat} (h : b ≠ 112 ∧ b ≠ 117 ∧ b ≠ 118) : mC σ t l b = σ b := by
  induction l with
  | zero => exact z_up_ne _ _ _ h.1
  | succ l ih => simp only [mC]; rw [z_up_ne _ _ _ h.1, z_up_ne _ _ _ h.2.2, z_up_ne _ _ _ h.2.1, ih]
def mDT (σ : Nat → Nat → Int32) (v : Nat) : Nat → Nat → Int32 := if σ 113 v = nI 2 ∧ ¬ σ 117 v = 0 then z_up (z_up σ 117 (tN (σ 115 v)) 1) 117 (tN (σ 116 v)) 1 else σ
def mD : Nat → (Nat → Nat → Int32) → Nat → Nat → Int32
  | 0, σ => σ
  | k + 1, σ => mD k (mDT σ k)
theorem mDT_ne {σ : Nat → Nat → Int32} {v b : Nat} (h : b ≠ 117) : mDT σ v b = σ b := by
  unfold mDT
  split
  · rw [z_up_ne _ _ _ h, z_up_ne _ _ _ h]
  · rfl
theorem mD_ne {k b : Nat} (h : b ≠ 117) : ∀ (σ : Nat → Nat → Int32), mD k σ b = σ b := by
  induction k with
  | zero => intro σ; rfl
  | succ k ih => intro σ; simp only [mD]; rw [ih, mDT_ne h]
def mEV (σ : Nat → Nat → Int32) (v : Nat) : Int32 := b2i (σ 113 v = 0 ∨ (¬ σ 118 (tN (σ 115 v)) = 0 ∧ ¬ σ 118 (tN (σ 116 v)) = 0))
def mE (σ : Nat → Nat → Int32) : Nat → Nat → Nat → Int32
  | 0 => σ
  | i + 1 => z_up (mE σ i) 118 (6 + i) (mEV (mE σ i) (6 + i))
theorem mE_ne {σ : Nat → Nat → Int32} {i b : Nat} (h : b ≠ 118) : mE σ i b = σ b := by
  induction i with
  | zero => rfl
  | succ i ih => simp only [mE]; rw [z_up_ne _ _ _ h, ih]
def okR (σ : Nat → Nat → Int32) (n : Nat) : Prop := ∀ v, v < n → (∃ a, a < 40 ∧ σ 115 v = nI a) ∧ ∃ b, b < 40 ∧ σ 116 v = nI b
def mZ (σ : Nat → Nat → Int32) (t p n : Nat) : Nat → Nat → Int32 := z_up (z_up (z_up (z_up (z_up σ 103 t (nI p)) 104 t (nI n)) 100 p 1) 92 19 (nI (t + 1))) 92 15 (-1)
/-- all behind the last through: n values, r recorded, trace t, start p -/
def mT (σ : Nat → Nat → Int32) (t n : Nat) : Nat → Nat → Int32 := mE (mD n (mC σ t 6)) (n - 6)
theorem mT_ne {σ : Nat → Nat → Int32} {t n b : Nat} (h : b ≠ 112 ∧ b ≠ 117 ∧ b ≠ 118) : mT σ t n b = σ b := by
  unfold mT
  rw [mE_ne h.2.2, mD_ne h.2.1, mC_ne h]
def mOK (σ : Nat → Nat → Int32) (t p n r : Nat) : Prop := t < 4 ∧ p < 40 ∧ 6 ≤ n ∧ n ≤ 40 ∧ σ 92 35 = nI n ∧ σ 92 19 = nI t ∧ σ 92 15 = nI p ∧ okR σ n ∧ (∀ l, l < 6 → ∃ q, q < 40 ∧ σ 120 l = nI q) ∧ kpI σ r
theorem kpF_ne {t b : Nat} (h : ¬ (105 ≤ b ∧ b ≤ 111)) : ∀ (m j : Nat) (σ : Nat → Nat → Int32), kpF t m j σ b = σ b := by
  intro m
  induction m with
  | zero => intro j σ; rfl
  | succ m ih => intro j σ; simp only [kpF]; rw [ih, kpT_ne h]
theorem kp0_ne {σ : Nat → Nat → Int32} {t b : Nat} (h : ¬ (105 ≤ b ∧ b ≤ 111)) : kp0 σ t b = σ b := by
  unfold kp0
  rw [z_up_ne _ _ _ (by omega), z_up_ne _ _ _ (by omega), z_up_ne _ _ _ (by omega), z_up_ne _ _ _ (by omega)]
theorem kpI_eq2 {σ : Nat → Nat → Int32} {t n r : Nat} (hI : kpI σ r) : kpI (mT σ t n) r := by
  unfold kpI
  rw [mT_ne (by decide), mT_ne (by decide), mT_ne (by decide)]
  exact hI
set_option maxRecDepth 100000 in
set_option maxHeartbeats 4000000 in
theorem mk_loopE {d : Nat} {σ : Nat → Nat → Int32} {τ : Nat → Nat → Int64} {t p n r : Nat} (hk : mOK σ t p n r) {w1 : Int32} (hw1 : w1 = nI t) : ∀ (m i : Nat), 6 + i ≤ n → n - 6 - i < m → z_V M_X11_makeTrace (d + 3) 0 0 0 0 none (124, z_r0, mZ (kpF t r 0 (kp0 (mT σ t n) t)) t p r, τ) 211 [some (.ref 92), some (.int w1), some (.int (nI (6 + i)))] [] (124, z_r0, mE (mD n (mC σ t 6)) i, τ) := by
  subst hw1
  obtain ⟨ht, hp, hn6, hn40, hn, ht19, hp15, hok, hl, hI⟩ := id hk
  have hkp : ∀ j, kpF t r 0 (kp0 (mT σ t n) t) 92 j = σ 92 j := fun j => by rw [kpF_ne (by omega), kp0_ne (by omega), mT_ne (by decide)]
  intro m
  induction m with
  | zero => intro i _ h; omega
  | succ m ih =>
    intro i hv1 hv2
    refine z_iload_n dX11_makeTrace_211 rfl rfl ?_
    refine z_aload_n dX11_makeTrace_212 rfl rfl ?_
    refine z_getI dX11_makeTrace_213 fl_X11_209 rfl rfl (show _ = nI n by rw [mE_ne (by decide), mD_ne (by decide), mC_ne (by decide)]; exact hn) ?_
    refine z_icmp_ge (tgt := 273) dX11_makeTrace_216 (by decide) (fun c216 => ?_) (fun c216 => ?_)
    · have e0 : i = n - 6 := by
        rcases Nat.lt_or_ge (6 + i) n with q | q
        · exact absurd c216 (nI_ge q (by omega))
        · omega
      subst e0
      refine z_aload_n dX11_makeTrace_273 rfl rfl ?_
      refine z_iload_n dX11_makeTrace_274 rfl rfl ?_
      refine z_cV0 dX11_makeTrace_275 ml_X11_228 (sp_keep ht (kpI_eq2 hI)) rfl ⟨by decide, rfl⟩ rfl rfl (Nat.le_of_ble_eq_true rfl) ?_
      refine z_aload_n dX11_makeTrace_278 rfl rfl ?_
      refine z_getR dX11_makeTrace_279 fl_X11_51 rfl rfl rfl ?_
      refine z_iload_n dX11_makeTrace_282 rfl rfl ?_
      refine z_aload_n dX11_makeTrace_283 rfl rfl ?_
      refine z_getI dX11_makeTrace_284 fl_X11_38 rfl rfl (show _ = nI p from (hkp 15).trans hp15) ?_
      refine z_iast dX11_makeTrace_287 rfl rfl (by omega) ?_
      refine z_aload_n dX11_makeTrace_288 rfl rfl ?_
      refine z_getR dX11_makeTrace_289 fl_X11_54 rfl rfl rfl ?_
      refine z_iload_n dX11_makeTrace_292 rfl rfl ?_
      refine z_aload_n dX11_makeTrace_293 rfl rfl ?_
      refine z_getI dX11_makeTrace_294 fl_X11_185 rfl rfl (show _ = nI r by rw [z_up_o _ _ (Or.inl (by decide))]; exact (hkp 16).trans hI.1) ?_
      refine z_iast dX11_makeTrace_297 rfl rfl (by omega) ?_
      refine z_aload_n dX11_makeTrace_298 rfl rfl ?_
      refine z_getR dX11_makeTrace_299 fl_X11_35 rfl rfl rfl ?_
      refine z_aload_n dX11_makeTrace_302 rfl rfl ?_
      refine z_getI dX11_makeTrace_303 fl_X11_38 rfl rfl (show _ = nI p by rw [z_up_o _ _ (Or.inl (by decide)), z_up_o _ _ (Or.inl (by decide))]; exact (hkp 15).trans hp15) ?_
      refine z_iconst (v := 1) dX11_makeTrace_306 (by decide) ?_
      refine z_iast dX11_makeTrace_307 rfl rfl (by omega) ?_
      refine z_aload_n dX11_makeTrace_308 rfl rfl ?_
      refine z_dup dX11_makeTrace_309 rfl ?_
      refine z_getI dX11_makeTrace_310 fl_X11_145 rfl rfl (show _ = nI t by rw [z_up_o _ _ (Or.inl (by decide)), z_up_o _ _ (Or.inl (by decide)), z_up_o _ _ (Or.inl (by decide))]; exact (hkp 19).trans ht19) ?_
      refine z_iconst (v := 1) dX11_makeTrace_313 (by decide) ?_
      refine z_iadd dX11_makeTrace_314 (nI_1 _) ?_
      refine z_putI dX11_makeTrace_315 fl_X11_145 rfl rfl (Or.inl rfl) rfl ?_
      refine z_aload_n dX11_makeTrace_318 rfl rfl ?_
      refine z_iconst (v := (-1)) dX11_makeTrace_319 (by decide) ?_
      refine z_putI dX11_makeTrace_320 fl_X11_38 rfl rfl (Or.inl rfl) rfl ?_
      exact z_vret dX11_makeTrace_323 rfl rfl rfl
    · have hlt : 6 + i < n := by
        rcases Nat.lt_or_ge (6 + i) n with q | q
        · exact q
        · exact absurd (nI_le q (by omega)) c216
      obtain ⟨⟨a, ha, hla⟩, b, hb, hlb⟩ := hok (6 + i) hlt
      have hfa : tN (mE (mD n (mC σ t 6)) i 115 (6 + i)) = a := by rw [mE_ne (by decide), mD_ne (by decide), mC_ne (by decide), hla, tN_nI (by omega)]
      have hsb : tN (mE (mD n (mC σ t 6)) i 116 (6 + i)) = b := by rw [mE_ne (by decide), mD_ne (by decide), mC_ne (by decide), hlb, tN_nI (by omega)]
      refine z_aload_n dX11_makeTrace_219 rfl rfl ?_
      refine z_getR dX11_makeTrace_220 fl_X11_96 rfl rfl rfl ?_
      refine z_iload_n dX11_makeTrace_223 rfl rfl ?_
      refine z_aload_n dX11_makeTrace_224 rfl rfl ?_
      refine z_getR dX11_makeTrace_225 fl_X11_81 rfl rfl rfl ?_
      refine z_iload_n dX11_makeTrace_228 rfl rfl ?_
      refine z_iald dX11_makeTrace_229 rfl rfl (by omega) rfl ?_
      refine z_if_eq (tgt := 261) dX11_makeTrace_230 (by decide) (fun c230 => ?_) (fun c230 => ?_)
      · refine z_iconst (v := 1) dX11_makeTrace_261 (by decide) ?_
        refine z_goto (tgt := 266) dX11_makeTrace_262 (by decide) ?_
        have hv : mEV (mE (mD n (mC σ t 6)) i) (6 + i) = 1 := b2i_t (Or.inl c230)
        refine z_zast dX11_makeTrace_266 rfl rfl (by omega) (by first | exact Or.inl rfl | exact Or.inr rfl) ?_
        refine z_iinc dX11_makeTrace_267 rfl (nI_i _) (by decide) ?_
        show z_V _ _ _ _ _ _ _ _ _ [_, _, _] _ _
        refine z_goto (tgt := 211) dX11_makeTrace_270 (by decide) ?_
        refine z_Vx (σ' := mE (mD n (mC σ t 6)) (i + 1)) (by simp only [mE]; rw [hv]) ?_
        exact ih (i + 1) (by omega) (by omega)
      · refine z_aload_n dX11_makeTrace_233 rfl rfl ?_
        refine z_getR dX11_makeTrace_234 fl_X11_96 rfl rfl rfl ?_
        refine z_aload_n dX11_makeTrace_237 rfl rfl ?_
        refine z_getR dX11_makeTrace_238 fl_X11_87 rfl rfl rfl ?_
        refine z_iload_n dX11_makeTrace_241 rfl rfl ?_
        refine z_iald dX11_makeTrace_242 rfl rfl (by omega) (show _ = nI a by rw [mE_ne (by decide), mD_ne (by decide), mC_ne (by decide)]; exact hla) ?_
        refine z_zald dX11_makeTrace_243 rfl rfl (by omega) rfl ?_
        refine z_if_eq (tgt := 265) dX11_makeTrace_244 (by decide) (fun c244 => ?_) (fun c244 => ?_)
        · refine z_iconst (v := 0) dX11_makeTrace_265 (by decide) ?_
          have hv : mEV (mE (mD n (mC σ t 6)) i) (6 + i) = 0 := b2i_f (fun z => z.elim c230 (fun y => y.1 (by rw [hfa]; exact c244)))
          refine z_zast dX11_makeTrace_266 rfl rfl (by omega) (by first | exact Or.inl rfl | exact Or.inr rfl) ?_
          refine z_iinc dX11_makeTrace_267 rfl (nI_i _) (by decide) ?_
          show z_V _ _ _ _ _ _ _ _ _ [_, _, _] _ _
          refine z_goto (tgt := 211) dX11_makeTrace_270 (by decide) ?_
          refine z_Vx (σ' := mE (mD n (mC σ t 6)) (i + 1)) (by simp only [mE]; rw [hv]) ?_
          exact ih (i + 1) (by omega) (by omega)
        · refine z_aload_n dX11_makeTrace_247 rfl rfl ?_
          refine z_getR dX11_makeTrace_248 fl_X11_96 rfl rfl rfl ?_
          refine z_aload_n dX11_makeTrace_251 rfl rfl ?_
          refine z_getR dX11_makeTrace_252 fl_X11_90 rfl rfl rfl ?_
          refine z_iload_n dX11_makeTrace_255 rfl rfl ?_
          refine z_iald dX11_makeTrace_256 rfl rfl (by omega) (show _ = nI b by rw [mE_ne (by decide), mD_ne (by decide), mC_ne (by decide)]; exact hlb) ?_
          refine z_zald dX11_makeTrace_257 rfl rfl (by omega) rfl ?_
          refine z_if_eq (tgt := 265) dX11_makeTrace_258 (by decide) (fun c258 => ?_) (fun c258 => ?_)
          · refine z_iconst (v := 0) dX11_makeTrace_265 (by decide) ?_
            have hv : mEV (mE (mD n (mC σ t 6)) i) (6 + i) = 0 := b2i_f (fun z => z.elim c230 (fun y => y.2 (by rw [hsb]; exact c258)))
            refine z_zast dX11_makeTrace_266 rfl rfl (by omega) (by first | exact Or.inl rfl | exact Or.inr rfl) ?_
            refine z_iinc dX11_makeTrace_267 rfl (nI_i _) (by decide) ?_
            show z_V _ _ _ _ _ _ _ _ _ [_, _, _] _ _
            refine z_goto (tgt := 211) dX11_makeTrace_270 (by decide) ?_
            refine z_Vx (σ' := mE (mD n (mC σ t 6)) (i + 1)) (by simp only [mE]; rw [hv]) ?_
            exact ih (i + 1) (by omega) (by omega)
          · refine z_iconst (v := 1) dX11_makeTrace_261 (by decide) ?_
            refine z_goto (tgt := 266) dX11_makeTrace_262 (by decide) ?_
            have hv : mEV (mE (mD n (mC σ t 6)) i) (6 + i) = 1 := b2i_t (Or.inr ⟨by rw [hfa]; exact c244, by rw [hsb]; exact c258⟩)
            refine z_zast dX11_makeTrace_266 rfl rfl (by omega) (by first | exact Or.inl rfl | exact Or.inr rfl) ?_
            refine z_iinc dX11_makeTrace_267 rfl (nI_i _) (by decide) ?_
            show z_V _ _ _ _ _ _ _ _ _ [_, _, _] _ _
            refine z_goto (tgt := 211) dX11_makeTrace_270 (by decide) ?_
            refine z_Vx (σ' := mE (mD n (mC σ t 6)) (i + 1)) (by simp only [mE]; rw [hv]) ?_
            exact ih (i + 1) (by omega) (by omega)
set_option maxRecDepth 100000 in
set_option maxHeartbeats 4000000 in
theorem mk_loopD {d : Nat} {σ : Nat → Nat → Int32} {τ : Nat → Nat → Int64} {t p n r : Nat} (hk : mOK σ t p n r) : ∀ (k : Nat), k ≤ n → ∀ (ρ : Nat → Nat → Int32), okR ρ k → mD k ρ = mD n (mC σ t 6) → z_V M_X11_makeTrace (d + 3) 0 0 0 0 none (124, z_r0, mZ (kpF t r 0 (kp0 (mT σ t n) t)) t p r, τ) 155 [some (.ref 92), some (.int (nI t)), some (.int (nI k - 1))] [] (124, z_r0, ρ, τ) := by
  obtain ⟨ht, hp, hn6, hn40, hn, ht19, hp15, hok, hl, hI⟩ := id hk
  intro k
  induction k using Nat.strongRecOn with
  | ind k ih0 =>
    intro hkn ρ hokD hfin
    have ih : ∀ j, j < k → ∀ (ρ : Nat → Nat → Int32), okR ρ j → mD j ρ = mD n (mC σ t 6) → z_V M_X11_makeTrace (d + 3) 0 0 0 0 none (124, z_r0, mZ (kpF t r 0 (kp0 (mT σ t n) t)) t p r, τ) 155 [some (.ref 92), some (.int (nI t)), some (.int (nI j - 1))] [] (124, z_r0, ρ, τ) := fun j hj => ih0 j hj (by omega)
    refine z_iload_n dX11_makeTrace_155 rfl rfl ?_
    refine z_if_lt (tgt := 208) dX11_makeTrace_156 (by decide) (fun c156 => ?_) (fun c156 => ?_)
    · have e0 : 0 = k := by
        rcases Nat.eq_zero_or_pos k with q | q
        · exact q.symm
        · obtain ⟨j, rfl⟩ : ∃ j, k = j + 1 := ⟨k - 1, by omega⟩
          rw [nI_pred] at c156
          exact absurd c156 (nI_pos (by omega))
      subst e0
      refine z_bipush (v := nI 6) dX11_makeTrace_208 (by decide) ?_
      refine z_istore_n dX11_makeTrace_210 rfl (by decide) ?_
      show z_V _ _ _ _ _ _ _ _ _ [_, _, _] _ _
      have h2 := mk_loopE (d := d) (τ := τ) hk rfl (n + 1) 0 (by omega) (by omega)
      rw [← hfin] at h2
      exact h2
    · obtain ⟨j, rfl⟩ : ∃ j, k = j + 1 := by
        rcases Nat.eq_zero_or_pos k with q | q
        · subst q; exact absurd (by decide +kernel) c156
        · exact ⟨k - 1, by omega⟩
      rw [nI_pred]
      obtain ⟨⟨a, ha, hla⟩, b, hb, hlb⟩ := hokD j (by omega)
      refine z_aload_n dX11_makeTrace_159 rfl rfl ?_
      refine z_getR dX11_makeTrace_160 fl_X11_81 rfl rfl rfl ?_
      refine z_iload_n dX11_makeTrace_163 rfl rfl ?_
      refine z_iald dX11_makeTrace_164 rfl rfl (by omega) rfl ?_
      refine z_iconst (v := nI 2) dX11_makeTrace_165 (by decide) ?_
      refine z_icmp_ne (tgt := 202) dX11_makeTrace_166 (by decide) (fun c166 => ?_) (fun c166 => ?_)
      · have e1 : mDT ρ j = ρ := if_neg (fun z => c166 z.1)
        refine z_iinc dX11_makeTrace_202 rfl (nI_dec _) (by decide) ?_
        show z_V _ _ _ _ _ _ _ _ _ [_, _, _] _ _
        refine z_goto (tgt := 155) dX11_makeTrace_205 (by decide) ?_
        exact z_Vx e1 (ih j (by omega) (mDT ρ j) (fun v hv => by rw [mDT_ne (by decide), mDT_ne (by decide)]; exact hokD v (by omega)) (by rw [← hfin]; rfl))
      · refine z_aload_n dX11_makeTrace_169 rfl rfl ?_
        refine z_getR dX11_makeTrace_170 fl_X11_93 rfl rfl rfl ?_
        refine z_iload_n dX11_makeTrace_173 rfl rfl ?_
        refine z_zald dX11_makeTrace_174 rfl rfl (by omega) rfl ?_
        refine z_if_eq (tgt := 202) dX11_makeTrace_175 (by decide) (fun c175 => ?_) (fun c175 => ?_)
        · have e1 : mDT ρ j = ρ := if_neg (fun z => z.2 c175)
          refine z_iinc dX11_makeTrace_202 rfl (nI_dec _) (by decide) ?_
          show z_V _ _ _ _ _ _ _ _ _ [_, _, _] _ _
          refine z_goto (tgt := 155) dX11_makeTrace_205 (by decide) ?_
          exact z_Vx e1 (ih j (by omega) (mDT ρ j) (fun v hv => by rw [mDT_ne (by decide), mDT_ne (by decide)]; exact hokD v (by omega)) (by rw [← hfin]; rfl))
        · have e1 : mDT ρ j = z_up (z_up ρ 117 a 1) 117 b 1 := by unfold mDT; rw [if_pos ⟨c166, c175⟩, hla, hlb, tN_nI (by omega), tN_nI (by omega)]
          refine z_aload_n dX11_makeTrace_178 rfl rfl ?_
          refine z_getR dX11_makeTrace_179 fl_X11_93 rfl rfl rfl ?_
          refine z_aload_n dX11_makeTrace_182 rfl rfl ?_
          refine z_getR dX11_makeTrace_183 fl_X11_87 rfl rfl rfl ?_
          refine z_iload_n dX11_makeTrace_186 rfl rfl ?_
          refine z_iald dX11_makeTrace_187 rfl rfl (by omega) hla ?_
          refine z_iconst (v := 1) dX11_makeTrace_188 (by decide) ?_
          refine z_zast dX11_makeTrace_189 rfl rfl (by omega) (by first | exact Or.inl rfl | exact Or.inr rfl) ?_
          refine z_aload_n dX11_makeTrace_190 rfl rfl ?_
          refine z_getR dX11_makeTrace_191 fl_X11_93 rfl rfl rfl ?_
          refine z_aload_n dX11_makeTrace_194 rfl rfl ?_
          refine z_getR dX11_makeTrace_195 fl_X11_90 rfl rfl rfl ?_
          refine z_iload_n dX11_makeTrace_198 rfl rfl ?_
          refine z_iald dX11_makeTrace_199 rfl rfl (by omega) (show _ = nI b by rw [z_up_ne _ _ _ (by decide)]; exact hlb) ?_
          refine z_iconst (v := 1) dX11_makeTrace_200 (by decide) ?_
          refine z_zast dX11_makeTrace_201 rfl rfl (by omega) (by first | exact Or.inl rfl | exact Or.inr rfl) ?_
          refine z_iinc dX11_makeTrace_202 rfl (nI_dec _) (by decide) ?_
          show z_V _ _ _ _ _ _ _ _ _ [_, _, _] _ _
          refine z_goto (tgt := 155) dX11_makeTrace_205 (by decide) ?_
          exact z_Vx e1 (ih j (by omega) (mDT ρ j) (fun v hv => by rw [mDT_ne (by decide), mDT_ne (by decide)]; exact hokD v (by omega)) (by rw [← hfin]; rfl))
set_option maxRecDepth 100000 in
set_option maxHeartbeats 4000000 in
theorem mk_loopC {d : Nat} {σ : Nat → Nat → Int32} {τ : Nat → Nat → Int64} {t p n r : Nat} (hk : mOK σ t p n r) : ∀ (m v : Nat), v ≤ 6 → 6 - v < m → z_V M_X11_makeTrace (d + 3) 0 0 0 0 none (124, z_r0, mZ (kpF t r 0 (kp0 (mT σ t n) t)) t p r, τ) 79 [some (.ref 92), some (.int (nI t)), some (.int (nI v))] [] (124, z_r0, mC σ t v, τ) := by
  obtain ⟨ht, hp, hn6, hn40, hn, ht19, hp15, hok, hl, hI⟩ := id hk
  intro m
  induction m with
  | zero => intro v _ h; omega
  | succ m ih =>
    intro v hv1 hv2
    refine z_iload_n dX11_makeTrace_79 rfl rfl ?_
    refine z_bipush (v := nI 6) dX11_makeTrace_80 (by decide) ?_
    refine z_icmp_ge (tgt := 148) dX11_makeTrace_82 (by decide) (fun c82 => ?_) (fun c82 => ?_)
    · have e0 : 6 = v := by
        rcases Nat.lt_or_ge v 6 with q | q
        · exact absurd c82 (nI_ge q (by omega))
        · omega
      subst e0
      refine z_aload_n dX11_makeTrace_148 rfl rfl ?_
      refine z_getI dX11_makeTrace_149 fl_X11_209 rfl rfl (show _ = nI n by rw [mC_ne (by decide)]; exact hn) ?_
      refine z_iconst (v := 1) dX11_makeTrace_152 (by decide) ?_
      refine z_isub dX11_makeTrace_153 rfl ?_
      refine z_istore_n dX11_makeTrace_154 rfl (by decide) ?_
      show z_V _ _ _ _ _ _ _ _ _ [_, _, _] _ _
      exact mk_loopD hk n (Nat.le_refl n) _ (fun v hv => by rw [mC_ne (by decide), mC_ne (by decide)]; exact hok v hv) rfl
    · have hlt : v < 6 := by
        rcases Nat.lt_or_ge v 6 with q | q
        · exact q
        · exact absurd (nI_le q (by omega)) c82
      refine z_aload_n dX11_makeTrace_85 rfl rfl ?_
      refine z_getR dX11_makeTrace_86 fl_X11_93 rfl rfl rfl ?_
      refine z_aload_n dX11_makeTrace_89 rfl rfl ?_
      refine z_getR dX11_makeTrace_90 fl_X11_102 rfl rfl rfl ?_
      refine z_iload_n dX11_makeTrace_93 rfl rfl ?_
      obtain ⟨q, hq, hpq⟩ := hl v hlt
      refine z_iald dX11_makeTrace_94 rfl rfl (by omega) (show _ = nI q by rw [mC_ne (by decide)]; exact hpq) ?_
      refine z_iconst (v := 1) dX11_makeTrace_95 (by decide) ?_
      refine z_zast dX11_makeTrace_96 rfl rfl (by omega) (by first | exact Or.inl rfl | exact Or.inr rfl) ?_
      refine z_aload_n dX11_makeTrace_97 rfl rfl ?_
      refine z_getR dX11_makeTrace_98 fl_X11_96 rfl rfl rfl ?_
      refine z_iload_n dX11_makeTrace_101 rfl rfl ?_
      refine z_aload_n dX11_makeTrace_102 rfl rfl ?_
      refine z_getR dX11_makeTrace_103 fl_X11_102 rfl rfl rfl ?_
      refine z_iload_n dX11_makeTrace_106 rfl rfl ?_
      refine z_iald dX11_makeTrace_107 rfl rfl (by omega) (show _ = σ 120 v by rw [z_up_ne _ _ _ (by decide), mC_ne (by decide)]) ?_
      refine z_iload_n dX11_makeTrace_108 rfl rfl ?_
      refine z_icmp_ne (tgt := 116) dX11_makeTrace_109 (by decide) (fun c109 => ?_) (fun c109 => ?_)
      · have hst : b2i (σ 120 v = nI v) = 0 := b2i_f c109
        refine z_iconst (v := 0) dX11_makeTrace_116 (by decide) ?_
        refine z_zast dX11_makeTrace_117 rfl rfl (by omega) (by first | exact Or.inl rfl | exact Or.inr rfl) ?_
        refine z_aload_n dX11_makeTrace_118 rfl rfl ?_
        refine z_getR dX11_makeTrace_119 fl_X11_78 rfl rfl rfl ?_
        refine z_iload_n dX11_makeTrace_122 rfl rfl ?_
        refine z_dup2 dX11_makeTrace_123 rfl rfl ?_
        refine z_iald dX11_makeTrace_124 rfl rfl (by omega) (show _ = mC σ t v 112 t by rw [z_up_o _ _ (Or.inl (by decide)), z_up_o _ _ (Or.inl (by decide))]) ?_
        refine z_aload_n dX11_makeTrace_125 rfl rfl ?_
        refine z_getR dX11_makeTrace_126 fl_X11_102 rfl rfl rfl ?_
        refine z_iload_n dX11_makeTrace_129 rfl rfl ?_
        refine z_iald dX11_makeTrace_130 rfl rfl (by omega) (show _ = σ 120 v by rw [z_up_ne _ _ _ (by decide), z_up_ne _ _ _ (by decide), mC_ne (by decide)]) ?_
        refine z_iload_n dX11_makeTrace_131 rfl rfl ?_
        refine z_icmp_ne (tgt := 139) dX11_makeTrace_132 (by decide) (fun _ => ?_) (fun c_ => absurd c_ (c109))
        refine z_iconst (v := 0) dX11_makeTrace_139 (by decide) ?_
        refine z_iadd dX11_makeTrace_140 rfl ?_
        refine z_iast dX11_makeTrace_141 rfl rfl (by omega) ?_
        refine z_iinc dX11_makeTrace_142 rfl (nI_i _) (by decide) ?_
        show z_V _ _ _ _ _ _ _ _ _ [_, _, _] _ _
        refine z_goto (tgt := 79) dX11_makeTrace_145 (by decide) ?_
        refine z_Vx (σ' := mC σ t (v + 1)) (by simp only [mC]; rw [hst, hpq, tN_nI (by omega)]) ?_
        exact ih (v + 1) (by omega) (by omega)
      · have hst : b2i (σ 120 v = nI v) = 1 := b2i_t c109
        refine z_iconst (v := 1) dX11_makeTrace_112 (by decide) ?_
        refine z_goto (tgt := 117) dX11_makeTrace_113 (by decide) ?_
        refine z_zast dX11_makeTrace_117 rfl rfl (by omega) (by first | exact Or.inl rfl | exact Or.inr rfl) ?_
        refine z_aload_n dX11_makeTrace_118 rfl rfl ?_
        refine z_getR dX11_makeTrace_119 fl_X11_78 rfl rfl rfl ?_
        refine z_iload_n dX11_makeTrace_122 rfl rfl ?_
        refine z_dup2 dX11_makeTrace_123 rfl rfl ?_
        refine z_iald dX11_makeTrace_124 rfl rfl (by omega) (show _ = mC σ t v 112 t by rw [z_up_o _ _ (Or.inl (by decide)), z_up_o _ _ (Or.inl (by decide))]) ?_
        refine z_aload_n dX11_makeTrace_125 rfl rfl ?_
        refine z_getR dX11_makeTrace_126 fl_X11_102 rfl rfl rfl ?_
        refine z_iload_n dX11_makeTrace_129 rfl rfl ?_
        refine z_iald dX11_makeTrace_130 rfl rfl (by omega) (show _ = σ 120 v by rw [z_up_ne _ _ _ (by decide), z_up_ne _ _ _ (by decide), mC_ne (by decide)]) ?_
        refine z_iload_n dX11_makeTrace_131 rfl rfl ?_
        refine z_icmp_ne (tgt := 139) dX11_makeTrace_132 (by decide) (fun c_ => absurd (c109) c_) (fun _ => ?_)
        refine z_iconst (v := 1) dX11_makeTrace_135 (by decide) ?_
        refine z_goto (tgt := 140) dX11_makeTrace_136 (by decide) ?_
        refine z_iadd dX11_makeTrace_140 rfl ?_
        refine z_iast dX11_makeTrace_141 rfl rfl (by omega) ?_
        refine z_iinc dX11_makeTrace_142 rfl (nI_i _) (by decide) ?_
        show z_V _ _ _ _ _ _ _ _ _ [_, _, _] _ _
        refine z_goto (tgt := 79) dX11_makeTrace_145 (by decide) ?_
        refine z_Vx (σ' := mC σ t (v + 1)) (by simp only [mC]; rw [hst, hpq, tN_nI (by omega)]) ?_
        exact ih (v + 1) (by omega) (by omega)
set_option maxRecDepth 100000 in
set_option maxHeartbeats 4000000 in
theorem mk_loopB {d : Nat} {τ : Nat → Nat → Int64} {F G : Nat → Nat → Nat → Int32} {R : Nat → Int32} {t p n r : Nat} (hB : mB F G R r d τ) (h16 : ∀ j, j ≤ r → F j 92 16 = nI r) (hr30 : r ≤ 30) (hk : mOK (F r) t p n r) : ∀ (m v : Nat), v ≤ r → r - v < m → z_V M_X11_makeTrace (d + 3) 0 0 0 0 none (124, z_r0, mZ (kpF t r 0 (kp0 (mT (F r) t n) t)) t p r, τ) 40 [some (.ref 92), some (.int (nI v)), none] [] (124, z_r0, F v, τ) := by
  obtain ⟨ht, hp, hn6, hn40, hn, ht19, hp15, hok, hl, hI⟩ := id hk
  intro m
  induction m with
  | zero => intro v _ h; omega
  | succ m ih =>
    intro v hv1 hv2
    refine z_iload_n dX11_makeTrace_40 rfl rfl ?_
    refine z_aload_n dX11_makeTrace_41 rfl rfl ?_
    refine z_getI dX11_makeTrace_42 fl_X11_185 rfl rfl (h16 v hv1) ?_
    refine z_icmp_ge (tgt := 65) dX11_makeTrace_45 (by decide) (fun c45 => ?_) (fun c45 => ?_)
    · have e0 : r = v := by
        rcases Nat.lt_or_ge v r with q | q
        · exact absurd c45 (nI_ge q (by omega))
        · omega
      subst e0
      refine z_aload_n dX11_makeTrace_65 rfl rfl ?_
      refine z_getI dX11_makeTrace_66 fl_X11_145 rfl rfl ht19 ?_
      refine z_istore_n dX11_makeTrace_69 rfl (by decide) ?_
      show z_V _ _ _ _ _ _ _ _ _ [_, _, _] _ _
      refine z_aload_n dX11_makeTrace_70 rfl rfl ?_
      refine z_getR dX11_makeTrace_71 fl_X11_78 rfl rfl rfl ?_
      refine z_iload_n dX11_makeTrace_74 rfl rfl ?_
      refine z_iconst (v := 0) dX11_makeTrace_75 (by decide) ?_
      refine z_iast dX11_makeTrace_76 rfl rfl (by omega) ?_
      refine z_iconst (v := 0) dX11_makeTrace_77 (by decide) ?_
      refine z_istore_n dX11_makeTrace_78 rfl (by decide) ?_
      show z_V _ _ _ _ _ _ _ _ _ [_, _, _] _ _
      exact mk_loopC hk 7 0 (by omega) (by omega)
    · have hlt : v < r := by
        rcases Nat.lt_or_ge v r with q | q
        · exact q
        · exact absurd (nI_le q (by omega)) c45
      refine z_aload_n dX11_makeTrace_48 rfl rfl ?_
      refine z_getR dX11_makeTrace_49 fl_X11_108 rfl rfl rfl ?_
      refine z_iload_n dX11_makeTrace_52 rfl rfl ?_
      refine z_aload_n dX11_makeTrace_53 rfl rfl ?_
      refine z_iload_n dX11_makeTrace_54 rfl rfl ?_
      refine z_cV1 dX11_makeTrace_55 ml_X11_225 ((hB v hlt).1) rfl ⟨by decide, rfl⟩ rfl rfl (Nat.le_of_ble_eq_true rfl) ?_
      refine z_iast dX11_makeTrace_58 rfl rfl (by omega) ?_
      refine z_iinc dX11_makeTrace_59 rfl (nI_i _) (by decide) ?_
      show z_V _ _ _ _ _ _ _ _ _ [_, _, _] _ _
      refine z_goto (tgt := 40) dX11_makeTrace_62 (by decide) ?_
      refine z_Vx (hB v hlt).2 ?_
      exact ih (v + 1) (by omega) (by omega)
set_option maxRecDepth 100000 in
set_option maxHeartbeats 4000000 in
theorem mk_loopA {d : Nat} {σ : Nat → Nat → Int32} {τ : Nat → Nat → Int64} {F G : Nat → Nat → Nat → Int32} {R : Nat → Int32} {t p n r : Nat} (hF : F 0 = mA σ 6) (hB : mB F G R r d τ) (h16 : ∀ j, j ≤ r → F j 92 16 = nI r) (hr30 : r ≤ 30) (hk : mOK (F r) t p n r) : ∀ (m v : Nat), v ≤ 6 → 6 - v < m → z_V M_X11_makeTrace (d + 3) 0 0 0 0 none (124, z_r0, mZ (kpF t r 0 (kp0 (mT (F r) t n) t)) t p r, τ) 12 [some (.ref 92), some (.int (nI v)), none] [] (124, z_r0, mA σ v, τ) := by
  intro m
  induction m with
  | zero => intro v _ h; omega
  | succ m ih =>
    intro v hv1 hv2
    refine z_iload_n dX11_makeTrace_12 rfl rfl ?_
    refine z_bipush (v := nI 6) dX11_makeTrace_13 (by decide) ?_
    refine z_icmp_ge (tgt := 38) dX11_makeTrace_15 (by decide) (fun c15 => ?_) (fun c15 => ?_)
    · have e0 : 6 = v := by
        rcases Nat.lt_or_ge v 6 with q | q
        · exact absurd c15 (nI_ge q (by omega))
        · omega
      subst e0
      refine z_iconst (v := 0) dX11_makeTrace_38 (by decide) ?_
      refine z_istore_n dX11_makeTrace_39 rfl (by decide) ?_
      show z_V _ _ _ _ _ _ _ _ _ [_, _, _] _ _
      rw [← hF]
      exact mk_loopB hB h16 hr30 hk (r + 1) 0 (Nat.zero_le _) (by omega)
    · have hlt : v < 6 := by
        rcases Nat.lt_or_ge v 6 with q | q
        · exact q
        · exact absurd (nI_le q (by omega)) c15
      refine z_aload_n dX11_makeTrace_18 rfl rfl ?_
      refine z_getR dX11_makeTrace_19 fl_X11_102 rfl rfl rfl ?_
      refine z_iload_n dX11_makeTrace_22 rfl rfl ?_
      refine z_aload_n dX11_makeTrace_23 rfl rfl ?_
      refine z_iconst (v := 1) dX11_makeTrace_24 (by decide) ?_
      refine z_iload_n dX11_makeTrace_25 rfl rfl ?_
      refine z_iconst (v := 0) dX11_makeTrace_26 (by decide) ?_
      refine z_iconst (v := 0) dX11_makeTrace_27 (by decide) ?_
      refine z_cV1 dX11_makeTrace_28 ml_X11_212 (sp_valueOf_new (mA_35 σ v) (by omega) (fun j hj z => absurd ((nI_eq (by omega) (by omega)).mp ((mA_114 σ v j hj).symm.trans z.2.1)) (by omega))) rfl ⟨by decide, rfl⟩ rfl rfl (Nat.le_of_ble_eq_true rfl) ?_
      refine z_iast dX11_makeTrace_31 rfl rfl (by omega) ?_
      refine z_iinc dX11_makeTrace_32 rfl (nI_i _) (by decide) ?_
      show z_V _ _ _ _ _ _ _ _ _ [_, _, _] _ _
      refine z_goto (tgt := 12) dX11_makeTrace_35 (by decide) ?_
      exact ih (v + 1) (by omega) (by omega)
set_option maxRecDepth 100000 in
set_option maxHeartbeats 4000000 in
theorem sp_makeTrace {d : Nat} {σ : Nat → Nat → Int32} {τ : Nat → Nat → Int64} {F G : Nat → Nat → Nat → Int32} {R : Nat → Int32} {t p n r : Nat} (hF : F 0 = mA σ 6) (hB : mB F G R r d τ) (h16 : ∀ j, j ≤ r → F j 92 16 = nI r) (hr30 : r ≤ 30) (hk : mOK (F r) t p n r) : z_MV M_X11_makeTrace (d + 3) 0 0 [.ref 92] (124, z_r0, σ, τ) (none) (124, z_r0, mZ (kpF t r 0 (kp0 (mT (F r) t n) t)) t p r, τ) := by
  refine z_MV.of pn_X11_makeTrace (Nat.le_of_ble_eq_true rfl) (by simp [Value.category]) rfl ?_
  show z_V _ _ _ _ _ _ _ _ _ [_, _, _] _ _
  refine z_aload_n dX11_makeTrace_0 rfl rfl ?_
  refine z_iconst (v := 0) dX11_makeTrace_1 (by decide) ?_
  refine z_putI dX11_makeTrace_2 fl_X11_209 rfl rfl (Or.inl rfl) rfl ?_
  refine z_aload_n dX11_makeTrace_5 rfl rfl ?_
  refine z_iconst (v := 0) dX11_makeTrace_6 (by decide) ?_
  refine z_putI dX11_makeTrace_7 fl_X11_216 rfl rfl (Or.inl rfl) rfl ?_
  refine z_iconst (v := 0) dX11_makeTrace_10 (by decide) ?_
  refine z_istore_n dX11_makeTrace_11 rfl (by decide) ?_
  show z_V _ _ _ _ _ _ _ _ _ [_, _, _] _ _
  exact mk_loopA hF hB h16 hr30 hk 7 0 (by omega) (by omega)
