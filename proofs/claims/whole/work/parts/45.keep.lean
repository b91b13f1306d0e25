/-! PART 45: TraceTierModel.keep, makeTrace -/
theorem m3_eq : ∀ q, q < 40 → (-3 : Int32) - (-3 - nI q) = nI q := by decide +kernel
theorem m3_lt : ∀ q, q < 40 → (-3 : Int32) - nI q < -2 := by decide +kernel
def kHI (σ : Nat → Nat → Int32) (j : Nat) : Int32 := b2i (σ 122 j < -2 ∧ σ 117 (tN (-3 - σ 122 j)) ≠ 0 ∧ σ 118 (tN (-3 - σ 122 j)) ≠ 0)
def kBI (σ : Nat → Nat → Int32) (j : Nat) : Int32 := b2i (σ 122 j < -2 ∧ σ 117 (tN (-3 - σ 122 j)) ≠ 0 ∧ σ 118 (tN (-3 - σ 122 j)) = 0)
def kGI (σ : Nat → Nat → Int32) (j : Nat) : Int32 := b2i (σ 122 j = 1)
def kOI (σ : Nat → Nat → Int32) (j : Nat) : Int32 := b2i (σ 122 j = nI 2)
def kpT (σ : Nat → Nat → Int32) (t j : Nat) : Nat → Nat → Int32 := z_up (z_up (z_up (z_up (z_up (z_up (z_up σ 108 t (σ 108 t + kHI σ j)) 109 t (σ 109 t + kBI σ j)) 110 t (σ 110 t + kGI σ j)) 111 t (σ 111 t + kOI σ j)) 105 (30 * t + j) (σ 101 j)) 106 (30 * t + j) (σ 102 j)) 107 (30 * t + j) (σ 109 t + kBI σ j + (σ 110 t + kGI σ j) + (σ 111 t + kOI σ j))
def kpF (t : Nat) : Nat → Nat → (Nat → Nat → Int32) → Nat → Nat → Int32
  | 0, _, σ => σ
  | m + 1, j, σ => kpF t m (j + 1) (kpT σ t j)
def kp0 (σ : Nat → Nat → Int32) (t : Nat) : Nat → Nat → Int32 := z_up (z_up (z_up (z_up σ 108 t 0) 109 t 0) 110 t 0) 111 t 0
def kpI (σ : Nat → Nat → Int32) (n : Nat) : Prop := σ 92 16 = nI n ∧ n ≤ 30 ∧ (∀ j, j < n → σ 102 j = 0 ∨ σ 102 j = 1) ∧ ∀ j, j < n → σ 122 j = 0 ∨ σ 122 j = 1 ∨ σ 122 j = nI 2 ∨ ∃ q, q < 40 ∧ σ 122 j = -3 - nI q
theorem kpT_ne {σ : Nat → Nat → Int32} {t j b : Nat} (h : ¬ (105 ≤ b ∧ b ≤ 111)) : kpT σ t j b = σ b := by
  unfold kpT
  rw [z_up_ne _ _ _ (by omega), z_up_ne _ _ _ (by omega), z_up_ne _ _ _ (by omega), z_up_ne _ _ _ (by omega), z_up_ne _ _ _ (by omega), z_up_ne _ _ _ (by omega), z_up_ne _ _ _ (by omega)]
theorem kpI_eq {σ σ' : Nat → Nat → Int32} {n : Nat} (h : ∀ b, ¬ (105 ≤ b ∧ b ≤ 111) → σ' b = σ b) (hI : kpI σ n) : kpI σ' n := by
  unfold kpI
  rw [h 92 (by omega), h 102 (by omega), h 122 (by omega)]
  exact hI
set_option maxRecDepth 100000 in
set_option maxHeartbeats 4000000 in
theorem keep_loop {d : Nat} {τ : Nat → Nat → Int64} {t n : Nat} (ht : t < 4) : ∀ (m v : Nat) (σ : Nat → Nat → Int32) (w3 w4 : Option Value), kpI σ n → v + m = n → z_V M_X11_keep d 0 0 0 0 none (124, z_r0, kpF t m v σ, τ) 30 [some (.ref 92), some (.int (nI t)), some (.int (nI v)), w3, w4] [] (124, z_r0, σ, τ) := by
  intro m
  induction m using Nat.strongRecOn with
  | ind m ih =>
    intro v σ w3 w4 hI hv
    have hn30 := hI.2.1
    refine z_iload_n dX11_keep_30 rfl rfl ?_
    refine z_aload_n dX11_keep_31 rfl rfl ?_
    refine z_getI dX11_keep_32 fl_X11_185 rfl rfl hI.1 ?_
    refine z_icmp_ge (tgt := 258) dX11_keep_35 (by decide) (fun c35 => ?_) (fun c35 => ?_)
    · have e0 : m = 0 := by
        rcases Nat.lt_or_ge v n with q | q
        · exact absurd c35 (nI_ge q (by omega))
        · omega
      subst e0
      exact z_vret dX11_keep_258 rfl rfl rfl
    · have hlt : v < n := by
        rcases Nat.lt_or_ge v n with q | q
        · exact q
        · exact absurd (nI_le q (by omega)) c35
      obtain ⟨m, rfl⟩ : ∃ k, m = k + 1 := ⟨m - 1, by omega⟩
      refine z_aload_n dX11_keep_38 rfl rfl ?_
      refine z_getR dX11_keep_39 fl_X11_108 rfl rfl rfl ?_
      refine z_iload_n dX11_keep_42 rfl rfl ?_
      refine z_iald dX11_keep_43 rfl rfl (by omega) rfl ?_
      refine z_bipush (v := (-2)) dX11_keep_44 (by decide) ?_
      refine z_icmp_ge (tgt := 61) dX11_keep_46 (by decide) (fun c46 => ?_) (fun c46 => ?_)
      · refine z_iconst (v := (-1)) dX11_keep_61 (by decide) ?_
        refine z_istore_n dX11_keep_62 rfl (by decide) ?_
        show z_V _ _ _ _ _ _ _ _ _ [_, _, _, _, _] _ _
        refine z_iload_n dX11_keep_63 rfl rfl ?_
        refine z_if_lt (tgt := 80) dX11_keep_64 (by decide) (fun _ => ?_) (fun c_ => absurd (by decide +kernel) c_)
        refine z_iconst (v := 0) dX11_keep_80 (by decide) ?_
        refine z_istore dX11_keep_81 (by decide) ?_
        show z_V _ _ _ _ _ _ _ _ _ [_, _, _, _, _] _ _
        have hH : kHI σ v = 0 := b2i_f (fun z => Int32.not_le.mpr z.1 c46)
        have hB : kBI σ v = 0 := b2i_f (fun z => Int32.not_le.mpr z.1 c46)
        refine z_aload_n dX11_keep_83 rfl rfl ?_
        refine z_getR dX11_keep_84 fl_X11_66 rfl rfl rfl ?_
        refine z_iload_n dX11_keep_87 rfl rfl ?_
        refine z_dup2 dX11_keep_88 rfl rfl ?_
        refine z_iald dX11_keep_89 rfl rfl (by omega) rfl ?_
        refine z_iload dX11_keep_90 rfl ?_
        refine z_if_eq (tgt := 108) dX11_keep_92 (by decide) (fun _ => ?_) (fun c_ => absurd (by decide +kernel) c_)
        refine z_iconst (v := 0) dX11_keep_108 (by decide) ?_
        refine z_iadd dX11_keep_109 (show _ = σ 108 t + kHI σ v by rw [hH]) ?_
        refine z_iast dX11_keep_110 rfl rfl (by omega) ?_
        refine z_aload_n dX11_keep_111 rfl rfl ?_
        refine z_getR dX11_keep_112 fl_X11_69 rfl rfl rfl ?_
        refine z_iload_n dX11_keep_115 rfl rfl ?_
        refine z_dup2 dX11_keep_116 rfl rfl ?_
        refine z_iald dX11_keep_117 rfl rfl (by omega) (show _ = σ 109 t by simp [z_up]) ?_
        refine z_iload dX11_keep_118 rfl ?_
        refine z_if_eq (tgt := 136) dX11_keep_120 (by decide) (fun _ => ?_) (fun c_ => absurd (by decide +kernel) c_)
        refine z_iconst (v := 0) dX11_keep_136 (by decide) ?_
        refine z_iadd dX11_keep_137 (show _ = σ 109 t + kBI σ v by rw [hB]) ?_
        refine z_iast dX11_keep_138 rfl rfl (by omega) ?_
        refine z_aload_n dX11_keep_139 rfl rfl ?_
        refine z_getR dX11_keep_140 fl_X11_72 rfl rfl rfl ?_
        refine z_iload_n dX11_keep_143 rfl rfl ?_
        refine z_dup2 dX11_keep_144 rfl rfl ?_
        refine z_iald dX11_keep_145 rfl rfl (by omega) (show _ = σ 110 t by simp [z_up]) ?_
        refine z_aload_n dX11_keep_146 rfl rfl ?_
        refine z_getR dX11_keep_147 fl_X11_108 rfl rfl rfl ?_
        refine z_iload_n dX11_keep_150 rfl rfl ?_
        refine z_iald dX11_keep_151 rfl rfl (by omega) (show _ = σ 122 v by simp [z_up]) ?_
        refine z_iconst (v := 1) dX11_keep_152 (by decide) ?_
        refine z_icmp_ne (tgt := 160) dX11_keep_153 (by decide) (fun c153 => ?_) (fun c153 => ?_)
        · have hG : kGI σ v = 0 := b2i_f c153
          refine z_iconst (v := 0) dX11_keep_160 (by decide) ?_
          refine z_iadd dX11_keep_161 (show _ = σ 110 t + kGI σ v by rw [hG]) ?_
          refine z_iast dX11_keep_162 rfl rfl (by omega) ?_
          refine z_aload_n dX11_keep_163 rfl rfl ?_
          refine z_getR dX11_keep_164 fl_X11_75 rfl rfl rfl ?_
          refine z_iload_n dX11_keep_167 rfl rfl ?_
          refine z_dup2 dX11_keep_168 rfl rfl ?_
          refine z_iald dX11_keep_169 rfl rfl (by omega) (show _ = σ 111 t by simp [z_up]) ?_
          refine z_aload_n dX11_keep_170 rfl rfl ?_
          refine z_getR dX11_keep_171 fl_X11_108 rfl rfl rfl ?_
          refine z_iload_n dX11_keep_174 rfl rfl ?_
          refine z_iald dX11_keep_175 rfl rfl (by omega) (show _ = σ 122 v by simp [z_up]) ?_
          refine z_iconst (v := nI 2) dX11_keep_176 (by decide) ?_
          refine z_icmp_ne (tgt := 184) dX11_keep_177 (by decide) (fun c177 => ?_) (fun c177 => ?_)
          · have hO : kOI σ v = 0 := b2i_f c177
            refine z_iconst (v := 0) dX11_keep_184 (by decide) ?_
            refine z_iadd dX11_keep_185 (show _ = σ 111 t + kOI σ v by rw [hO]) ?_
            refine z_iast dX11_keep_186 rfl rfl (by omega) ?_
            refine z_aload_n dX11_keep_187 rfl rfl ?_
            refine z_getR dX11_keep_188 fl_X11_57 rfl rfl rfl ?_
            refine z_bipush (v := nI 30) dX11_keep_191 (by decide) ?_
            refine z_iload_n dX11_keep_193 rfl rfl ?_
            refine z_imul dX11_keep_194 (pk_mul 30 t) ?_
            refine z_iload_n dX11_keep_195 rfl rfl ?_
            refine z_iadd dX11_keep_196 (nI_add _ _) ?_
            refine z_aload_n dX11_keep_197 rfl rfl ?_
            refine z_getR dX11_keep_198 fl_X11_41 rfl rfl rfl ?_
            refine z_iload_n dX11_keep_201 rfl rfl ?_
            refine z_iald dX11_keep_202 rfl rfl (by omega) (show _ = σ 101 v by simp [z_up]) ?_
            refine z_iast dX11_keep_203 rfl rfl (by omega) ?_
            refine z_aload_n dX11_keep_204 rfl rfl ?_
            refine z_getR dX11_keep_205 fl_X11_60 rfl rfl rfl ?_
            refine z_bipush (v := nI 30) dX11_keep_208 (by decide) ?_
            refine z_iload_n dX11_keep_210 rfl rfl ?_
            refine z_imul dX11_keep_211 (pk_mul 30 t) ?_
            refine z_iload_n dX11_keep_212 rfl rfl ?_
            refine z_iadd dX11_keep_213 (nI_add _ _) ?_
            refine z_aload_n dX11_keep_214 rfl rfl ?_
            refine z_getR dX11_keep_215 fl_X11_44 rfl rfl rfl ?_
            refine z_iload_n dX11_keep_218 rfl rfl ?_
            refine z_zald dX11_keep_219 rfl rfl (by omega) (show _ = σ 102 v by simp [z_up]) ?_
            refine z_zast dX11_keep_220 rfl rfl (by omega) (hI.2.2.1 v hlt) ?_
            refine z_aload_n dX11_keep_221 rfl rfl ?_
            refine z_getR dX11_keep_222 fl_X11_63 rfl rfl rfl ?_
            refine z_bipush (v := nI 30) dX11_keep_225 (by decide) ?_
            refine z_iload_n dX11_keep_227 rfl rfl ?_
            refine z_imul dX11_keep_228 (pk_mul 30 t) ?_
            refine z_iload_n dX11_keep_229 rfl rfl ?_
            refine z_iadd dX11_keep_230 (nI_add _ _) ?_
            refine z_aload_n dX11_keep_231 rfl rfl ?_
            refine z_getR dX11_keep_232 fl_X11_69 rfl rfl rfl ?_
            refine z_iload_n dX11_keep_235 rfl rfl ?_
            refine z_iald dX11_keep_236 rfl rfl (by omega) (show _ = σ 109 t + kBI σ v by simp [z_up]) ?_
            refine z_aload_n dX11_keep_237 rfl rfl ?_
            refine z_getR dX11_keep_238 fl_X11_72 rfl rfl rfl ?_
            refine z_iload_n dX11_keep_241 rfl rfl ?_
            refine z_iald dX11_keep_242 rfl rfl (by omega) (show _ = σ 110 t + kGI σ v by simp [z_up]) ?_
            refine z_iadd dX11_keep_243 rfl ?_
            refine z_aload_n dX11_keep_244 rfl rfl ?_
            refine z_getR dX11_keep_245 fl_X11_75 rfl rfl rfl ?_
            refine z_iload_n dX11_keep_248 rfl rfl ?_
            refine z_iald dX11_keep_249 rfl rfl (by omega) (show _ = σ 111 t + kOI σ v by simp [z_up]) ?_
            refine z_iadd dX11_keep_250 rfl ?_
            refine z_iast dX11_keep_251 rfl rfl (by omega) ?_
            refine z_iinc dX11_keep_252 rfl (nI_i _) (by decide) ?_
            show z_V _ _ _ _ _ _ _ _ _ [_, _, _, _, _] _ _
            refine z_goto (tgt := 30) dX11_keep_255 (by decide) ?_
            exact ih m (by omega) (v + 1) _ _ _ (kpI_eq (fun b hb => kpT_ne hb) hI) (by omega)
          · have hO : kOI σ v = 1 := b2i_t c177
            refine z_iconst (v := 1) dX11_keep_180 (by decide) ?_
            refine z_goto (tgt := 185) dX11_keep_181 (by decide) ?_
            refine z_iadd dX11_keep_185 (show _ = σ 111 t + kOI σ v by rw [hO]) ?_
            refine z_iast dX11_keep_186 rfl rfl (by omega) ?_
            refine z_aload_n dX11_keep_187 rfl rfl ?_
            refine z_getR dX11_keep_188 fl_X11_57 rfl rfl rfl ?_
            refine z_bipush (v := nI 30) dX11_keep_191 (by decide) ?_
            refine z_iload_n dX11_keep_193 rfl rfl ?_
            refine z_imul dX11_keep_194 (pk_mul 30 t) ?_
            refine z_iload_n dX11_keep_195 rfl rfl ?_
            refine z_iadd dX11_keep_196 (nI_add _ _) ?_
            refine z_aload_n dX11_keep_197 rfl rfl ?_
            refine z_getR dX11_keep_198 fl_X11_41 rfl rfl rfl ?_
            refine z_iload_n dX11_keep_201 rfl rfl ?_
            refine z_iald dX11_keep_202 rfl rfl (by omega) (show _ = σ 101 v by simp [z_up]) ?_
            refine z_iast dX11_keep_203 rfl rfl (by omega) ?_
            refine z_aload_n dX11_keep_204 rfl rfl ?_
            refine z_getR dX11_keep_205 fl_X11_60 rfl rfl rfl ?_
            refine z_bipush (v := nI 30) dX11_keep_208 (by decide) ?_
            refine z_iload_n dX11_keep_210 rfl rfl ?_
            refine z_imul dX11_keep_211 (pk_mul 30 t) ?_
            refine z_iload_n dX11_keep_212 rfl rfl ?_
            refine z_iadd dX11_keep_213 (nI_add _ _) ?_
            refine z_aload_n dX11_keep_214 rfl rfl ?_
            refine z_getR dX11_keep_215 fl_X11_44 rfl rfl rfl ?_
            refine z_iload_n dX11_keep_218 rfl rfl ?_
            refine z_zald dX11_keep_219 rfl rfl (by omega) (show _ = σ 102 v by simp [z_up]) ?_
            refine z_zast dX11_keep_220 rfl rfl (by omega) (hI.2.2.1 v hlt) ?_
            refine z_aload_n dX11_keep_221 rfl rfl ?_
            refine z_getR dX11_keep_222 fl_X11_63 rfl rfl rfl ?_
            refine z_bipush (v := nI 30) dX11_keep_225 (by decide) ?_
            refine z_iload_n dX11_keep_227 rfl rfl ?_
            refine z_imul dX11_keep_228 (pk_mul 30 t) ?_
            refine z_iload_n dX11_keep_229 rfl rfl ?_
            refine z_iadd dX11_keep_230 (nI_add _ _) ?_
            refine z_aload_n dX11_keep_231 rfl rfl ?_
            refine z_getR dX11_keep_232 fl_X11_69 rfl rfl rfl ?_
            refine z_iload_n dX11_keep_235 rfl rfl ?_
            refine z_iald dX11_keep_236 rfl rfl (by omega) (show _ = σ 109 t + kBI σ v by simp [z_up]) ?_
            refine z_aload_n dX11_keep_237 rfl rfl ?_
            refine z_getR dX11_keep_238 fl_X11_72 rfl rfl rfl ?_
            refine z_iload_n dX11_keep_241 rfl rfl ?_
            refine z_iald dX11_keep_242 rfl rfl (by omega) (show _ = σ 110 t + kGI σ v by simp [z_up]) ?_
            refine z_iadd dX11_keep_243 rfl ?_
            refine z_aload_n dX11_keep_244 rfl rfl ?_
            refine z_getR dX11_keep_245 fl_X11_75 rfl rfl rfl ?_
            refine z_iload_n dX11_keep_248 rfl rfl ?_
            refine z_iald dX11_keep_249 rfl rfl (by omega) (show _ = σ 111 t + kOI σ v by simp [z_up]) ?_
            refine z_iadd dX11_keep_250 rfl ?_
            refine z_iast dX11_keep_251 rfl rfl (by omega) ?_
            refine z_iinc dX11_keep_252 rfl (nI_i _) (by decide) ?_
            show z_V _ _ _ _ _ _ _ _ _ [_, _, _, _, _] _ _
            refine z_goto (tgt := 30) dX11_keep_255 (by decide) ?_
            exact ih m (by omega) (v + 1) _ _ _ (kpI_eq (fun b hb => kpT_ne hb) hI) (by omega)
        · have hG : kGI σ v = 1 := b2i_t c153
          refine z_iconst (v := 1) dX11_keep_156 (by decide) ?_
          refine z_goto (tgt := 161) dX11_keep_157 (by decide) ?_
          refine z_iadd dX11_keep_161 (show _ = σ 110 t + kGI σ v by rw [hG]) ?_
          refine z_iast dX11_keep_162 rfl rfl (by omega) ?_
          refine z_aload_n dX11_keep_163 rfl rfl ?_
          refine z_getR dX11_keep_164 fl_X11_75 rfl rfl rfl ?_
          refine z_iload_n dX11_keep_167 rfl rfl ?_
          refine z_dup2 dX11_keep_168 rfl rfl ?_
          refine z_iald dX11_keep_169 rfl rfl (by omega) (show _ = σ 111 t by simp [z_up]) ?_
          refine z_aload_n dX11_keep_170 rfl rfl ?_
          refine z_getR dX11_keep_171 fl_X11_108 rfl rfl rfl ?_
          refine z_iload_n dX11_keep_174 rfl rfl ?_
          refine z_iald dX11_keep_175 rfl rfl (by omega) (show _ = σ 122 v by simp [z_up]) ?_
          refine z_iconst (v := nI 2) dX11_keep_176 (by decide) ?_
          refine z_icmp_ne (tgt := 184) dX11_keep_177 (by decide) (fun c177 => ?_) (fun c177 => ?_)
          · have hO : kOI σ v = 0 := b2i_f c177
            refine z_iconst (v := 0) dX11_keep_184 (by decide) ?_
            refine z_iadd dX11_keep_185 (show _ = σ 111 t + kOI σ v by rw [hO]) ?_
            refine z_iast dX11_keep_186 rfl rfl (by omega) ?_
            refine z_aload_n dX11_keep_187 rfl rfl ?_
            refine z_getR dX11_keep_188 fl_X11_57 rfl rfl rfl ?_
            refine z_bipush (v := nI 30) dX11_keep_191 (by decide) ?_
            refine z_iload_n dX11_keep_193 rfl rfl ?_
            refine z_imul dX11_keep_194 (pk_mul 30 t) ?_
            refine z_iload_n dX11_keep_195 rfl rfl ?_
            refine z_iadd dX11_keep_196 (nI_add _ _) ?_
            refine z_aload_n dX11_keep_197 rfl rfl ?_
            refine z_getR dX11_keep_198 fl_X11_41 rfl rfl rfl ?_
            refine z_iload_n dX11_keep_201 rfl rfl ?_
            refine z_iald dX11_keep_202 rfl rfl (by omega) (show _ = σ 101 v by simp [z_up]) ?_
            refine z_iast dX11_keep_203 rfl rfl (by omega) ?_
            refine z_aload_n dX11_keep_204 rfl rfl ?_
            refine z_getR dX11_keep_205 fl_X11_60 rfl rfl rfl ?_
            refine z_bipush (v := nI 30) dX11_keep_208 (by decide) ?_
            refine z_iload_n dX11_keep_210 rfl rfl ?_
            refine z_imul dX11_keep_211 (pk_mul 30 t) ?_
            refine z_iload_n dX11_keep_212 rfl rfl ?_
            refine z_iadd dX11_keep_213 (nI_add _ _) ?_
            refine z_aload_n dX11_keep_214 rfl rfl ?_
            refine z_getR dX11_keep_215 fl_X11_44 rfl rfl rfl ?_
            refine z_iload_n dX11_keep_218 rfl rfl ?_
            refine z_zald dX11_keep_219 rfl rfl (by omega) (show _ = σ 102 v by simp [z_up]) ?_
            refine z_zast dX11_keep_220 rfl rfl (by omega) (hI.2.2.1 v hlt) ?_
            refine z_aload_n dX11_keep_221 rfl rfl ?_
            refine z_getR dX11_keep_222 fl_X11_63 rfl rfl rfl ?_
            refine z_bipush (v := nI 30) dX11_keep_225 (by decide) ?_
            refine z_iload_n dX11_keep_227 rfl rfl ?_
            refine z_imul dX11_keep_228 (pk_mul 30 t) ?_
            refine z_iload_n dX11_keep_229 rfl rfl ?_
            refine z_iadd dX11_keep_230 (nI_add _ _) ?_
            refine z_aload_n dX11_keep_231 rfl rfl ?_
            refine z_getR dX11_keep_232 fl_X11_69 rfl rfl rfl ?_
            refine z_iload_n dX11_keep_235 rfl rfl ?_
            refine z_iald dX11_keep_236 rfl rfl (by omega) (show _ = σ 109 t + kBI σ v by simp [z_up]) ?_
            refine z_aload_n dX11_keep_237 rfl rfl ?_
            refine z_getR dX11_keep_238 fl_X11_72 rfl rfl rfl ?_
            refine z_iload_n dX11_keep_241 rfl rfl ?_
            refine z_iald dX11_keep_242 rfl rfl (by omega) (show _ = σ 110 t + kGI σ v by simp [z_up]) ?_
            refine z_iadd dX11_keep_243 rfl ?_
            refine z_aload_n dX11_keep_244 rfl rfl ?_
            refine z_getR dX11_keep_245 fl_X11_75 rfl rfl rfl ?_
            refine z_iload_n dX11_keep_248 rfl rfl ?_
            refine z_iald dX11_keep_249 rfl rfl (by omega) (show _ = σ 111 t + kOI σ v by simp [z_up]) ?_
            refine z_iadd dX11_keep_250 rfl ?_
            refine z_iast dX11_keep_251 rfl rfl (by omega) ?_
            refine z_iinc dX11_keep_252 rfl (nI_i _) (by decide) ?_
            show z_V _ _ _ _ _ _ _ _ _ [_, _, _, _, _] _ _
            refine z_goto (tgt := 30) dX11_keep_255 (by decide) ?_
            exact ih m (by omega) (v + 1) _ _ _ (kpI_eq (fun b hb => kpT_ne hb) hI) (by omega)
          · have hO : kOI σ v = 1 := b2i_t c177
            refine z_iconst (v := 1) dX11_keep_180 (by decide) ?_
            refine z_goto (tgt := 185) dX11_keep_181 (by decide) ?_
            refine z_iadd dX11_keep_185 (show _ = σ 111 t + kOI σ v by rw [hO]) ?_
            refine z_iast dX11_keep_186 rfl rfl (by omega) ?_
            refine z_aload_n dX11_keep_187 rfl rfl ?_
            refine z_getR dX11_keep_188 fl_X11_57 rfl rfl rfl ?_
            refine z_bipush (v := nI 30) dX11_keep_191 (by decide) ?_
            refine z_iload_n dX11_keep_193 rfl rfl ?_
            refine z_imul dX11_keep_194 (pk_mul 30 t) ?_
            refine z_iload_n dX11_keep_195 rfl rfl ?_
            refine z_iadd dX11_keep_196 (nI_add _ _) ?_
            refine z_aload_n dX11_keep_197 rfl rfl ?_
            refine z_getR dX11_keep_198 fl_X11_41 rfl rfl rfl ?_
            refine z_iload_n dX11_keep_201 rfl rfl ?_
            refine z_iald dX11_keep_202 rfl rfl (by omega) (show _ = σ 101 v by simp [z_up]) ?_
            refine z_iast dX11_keep_203 rfl rfl (by omega) ?_
            refine z_aload_n dX11_keep_204 rfl rfl ?_
            refine z_getR dX11_keep_205 fl_X11_60 rfl rfl rfl ?_
            refine z_bipush (v := nI 30) dX11_keep_208 (by decide) ?_
            refine z_iload_n dX11_keep_210 rfl rfl ?_
            refine z_imul dX11_keep_211 (pk_mul 30 t) ?_
            refine z_iload_n dX11_keep_212 rfl rfl ?_
            refine z_iadd dX11_keep_213 (nI_add _ _) ?_
            refine z_aload_n dX11_keep_214 rfl rfl ?_
            refine z_getR dX11_keep_215 fl_X11_44 rfl rfl rfl ?_
            refine z_iload_n dX11_keep_218 rfl rfl ?_
            refine z_zald dX11_keep_219 rfl rfl (by omega) (show _ = σ 102 v by simp [z_up]) ?_
            refine z_zast dX11_keep_220 rfl rfl (by omega) (hI.2.2.1 v hlt) ?_
            refine z_aload_n dX11_keep_221 rfl rfl ?_
            refine z_getR dX11_keep_222 fl_X11_63 rfl rfl rfl ?_
            refine z_bipush (v := nI 30) dX11_keep_225 (by decide) ?_
            refine z_iload_n dX11_keep_227 rfl rfl ?_
            refine z_imul dX11_keep_228 (pk_mul 30 t) ?_
            refine z_iload_n dX11_keep_229 rfl rfl ?_
            refine z_iadd dX11_keep_230 (nI_add _ _) ?_
            refine z_aload_n dX11_keep_231 rfl rfl ?_
            refine z_getR dX11_keep_232 fl_X11_69 rfl rfl rfl ?_
            refine z_iload_n dX11_keep_235 rfl rfl ?_
            refine z_iald dX11_keep_236 rfl rfl (by omega) (show _ = σ 109 t + kBI σ v by simp [z_up]) ?_
            refine z_aload_n dX11_keep_237 rfl rfl ?_
            refine z_getR dX11_keep_238 fl_X11_72 rfl rfl rfl ?_
            refine z_iload_n dX11_keep_241 rfl rfl ?_
            refine z_iald dX11_keep_242 rfl rfl (by omega) (show _ = σ 110 t + kGI σ v by simp [z_up]) ?_
            refine z_iadd dX11_keep_243 rfl ?_
            refine z_aload_n dX11_keep_244 rfl rfl ?_
            refine z_getR dX11_keep_245 fl_X11_75 rfl rfl rfl ?_
            refine z_iload_n dX11_keep_248 rfl rfl ?_
            refine z_iald dX11_keep_249 rfl rfl (by omega) (show _ = σ 111 t + kOI σ v by simp [z_up]) ?_
            refine z_iadd dX11_keep_250 rfl ?_
            refine z_iast dX11_keep_251 rfl rfl (by omega) ?_
            refine z_iinc dX11_keep_252 rfl (nI_i _) (by decide) ?_
            show z_V _ _ _ _ _ _ _ _ _ [_, _, _, _, _] _ _
            refine z_goto (tgt := 30) dX11_keep_255 (by decide) ?_
            exact ih m (by omega) (v + 1) _ _ _ (kpI_eq (fun b hb => kpT_ne hb) hI) (by omega)
      · obtain ⟨q, hq40, hmk⟩ : ∃ q, q < 40 ∧ σ 122 v = -3 - nI q := by
          rcases hI.2.2.2 v hlt with z | z | z | z
          · rw [z] at c46; exact absurd (by decide +kernel) c46
          · rw [z] at c46; exact absurd (by decide +kernel) c46
          · rw [z] at c46; exact absurd (by decide +kernel) c46
          · exact z
        have hm2 : σ 122 v < -2 := by rw [hmk]; exact m3_lt q hq40
        have hvq : tN (-3 - σ 122 v) = q := by rw [hmk, m3_eq q hq40, tN_nI (by omega)]
        refine z_bipush (v := (-3)) dX11_keep_49 (by decide) ?_
        refine z_aload_n dX11_keep_51 rfl rfl ?_
        refine z_getR dX11_keep_52 fl_X11_108 rfl rfl rfl ?_
        refine z_iload_n dX11_keep_55 rfl rfl ?_
        refine z_iald dX11_keep_56 rfl rfl (by omega) rfl ?_
        refine z_isub dX11_keep_57 (show _ = nI q by rw [hmk]; exact m3_eq q hq40) ?_
        refine z_goto (tgt := 62) dX11_keep_58 (by decide) ?_
        refine z_istore_n dX11_keep_62 rfl (by decide) ?_
        show z_V _ _ _ _ _ _ _ _ _ [_, _, _, _, _] _ _
        refine z_iload_n dX11_keep_63 rfl rfl ?_
        refine z_if_lt (tgt := 80) dX11_keep_64 (by decide) (fun c_ => absurd c_ (nI_pos (by omega))) (fun _ => ?_)
        refine z_aload_n dX11_keep_67 rfl rfl ?_
        refine z_getR dX11_keep_68 fl_X11_93 rfl rfl rfl ?_
        refine z_iload_n dX11_keep_71 rfl rfl ?_
        refine z_zald dX11_keep_72 rfl rfl (by omega) rfl ?_
        refine z_if_eq (tgt := 80) dX11_keep_73 (by decide) (fun c73 => ?_) (fun c73 => ?_)
        · refine z_iconst (v := 0) dX11_keep_80 (by decide) ?_
          refine z_istore dX11_keep_81 (by decide) ?_
          show z_V _ _ _ _ _ _ _ _ _ [_, _, _, _, _] _ _
          have hH : kHI σ v = 0 := b2i_f (fun z => z.2.1 (by rw [hvq]; exact c73))
          have hB : kBI σ v = 0 := b2i_f (fun z => z.2.1 (by rw [hvq]; exact c73))
          refine z_aload_n dX11_keep_83 rfl rfl ?_
          refine z_getR dX11_keep_84 fl_X11_66 rfl rfl rfl ?_
          refine z_iload_n dX11_keep_87 rfl rfl ?_
          refine z_dup2 dX11_keep_88 rfl rfl ?_
          refine z_iald dX11_keep_89 rfl rfl (by omega) rfl ?_
          refine z_iload dX11_keep_90 rfl ?_
          refine z_if_eq (tgt := 108) dX11_keep_92 (by decide) (fun _ => ?_) (fun c_ => absurd (by decide +kernel) c_)
          refine z_iconst (v := 0) dX11_keep_108 (by decide) ?_
          refine z_iadd dX11_keep_109 (show _ = σ 108 t + kHI σ v by rw [hH]) ?_
          refine z_iast dX11_keep_110 rfl rfl (by omega) ?_
          refine z_aload_n dX11_keep_111 rfl rfl ?_
          refine z_getR dX11_keep_112 fl_X11_69 rfl rfl rfl ?_
          refine z_iload_n dX11_keep_115 rfl rfl ?_
          refine z_dup2 dX11_keep_116 rfl rfl ?_
          refine z_iald dX11_keep_117 rfl rfl (by omega) (show _ = σ 109 t by simp [z_up]) ?_
          refine z_iload dX11_keep_118 rfl ?_
          refine z_if_eq (tgt := 136) dX11_keep_120 (by decide) (fun _ => ?_) (fun c_ => absurd (by decide +kernel) c_)
          refine z_iconst (v := 0) dX11_keep_136 (by decide) ?_
          refine z_iadd dX11_keep_137 (show _ = σ 109 t + kBI σ v by rw [hB]) ?_
          refine z_iast dX11_keep_138 rfl rfl (by omega) ?_
          refine z_aload_n dX11_keep_139 rfl rfl ?_
          refine z_getR dX11_keep_140 fl_X11_72 rfl rfl rfl ?_
          refine z_iload_n dX11_keep_143 rfl rfl ?_
          refine z_dup2 dX11_keep_144 rfl rfl ?_
          refine z_iald dX11_keep_145 rfl rfl (by omega) (show _ = σ 110 t by simp [z_up]) ?_
          refine z_aload_n dX11_keep_146 rfl rfl ?_
          refine z_getR dX11_keep_147 fl_X11_108 rfl rfl rfl ?_
          refine z_iload_n dX11_keep_150 rfl rfl ?_
          refine z_iald dX11_keep_151 rfl rfl (by omega) (show _ = σ 122 v by simp [z_up]) ?_
          refine z_iconst (v := 1) dX11_keep_152 (by decide) ?_
          refine z_icmp_ne (tgt := 160) dX11_keep_153 (by decide) (fun c153 => ?_) (fun c153 => ?_)
          · have hG : kGI σ v = 0 := b2i_f c153
            refine z_iconst (v := 0) dX11_keep_160 (by decide) ?_
            refine z_iadd dX11_keep_161 (show _ = σ 110 t + kGI σ v by rw [hG]) ?_
            refine z_iast dX11_keep_162 rfl rfl (by omega) ?_
            refine z_aload_n dX11_keep_163 rfl rfl ?_
            refine z_getR dX11_keep_164 fl_X11_75 rfl rfl rfl ?_
            refine z_iload_n dX11_keep_167 rfl rfl ?_
            refine z_dup2 dX11_keep_168 rfl rfl ?_
            refine z_iald dX11_keep_169 rfl rfl (by omega) (show _ = σ 111 t by simp [z_up]) ?_
            refine z_aload_n dX11_keep_170 rfl rfl ?_
            refine z_getR dX11_keep_171 fl_X11_108 rfl rfl rfl ?_
            refine z_iload_n dX11_keep_174 rfl rfl ?_
            refine z_iald dX11_keep_175 rfl rfl (by omega) (show _ = σ 122 v by simp [z_up]) ?_
            refine z_iconst (v := nI 2) dX11_keep_176 (by decide) ?_
            refine z_icmp_ne (tgt := 184) dX11_keep_177 (by decide) (fun c177 => ?_) (fun c177 => ?_)
            · have hO : kOI σ v = 0 := b2i_f c177
              refine z_iconst (v := 0) dX11_keep_184 (by decide) ?_
              refine z_iadd dX11_keep_185 (show _ = σ 111 t + kOI σ v by rw [hO]) ?_
              refine z_iast dX11_keep_186 rfl rfl (by omega) ?_
              refine z_aload_n dX11_keep_187 rfl rfl ?_
              refine z_getR dX11_keep_188 fl_X11_57 rfl rfl rfl ?_
              refine z_bipush (v := nI 30) dX11_keep_191 (by decide) ?_
              refine z_iload_n dX11_keep_193 rfl rfl ?_
              refine z_imul dX11_keep_194 (pk_mul 30 t) ?_
              refine z_iload_n dX11_keep_195 rfl rfl ?_
              refine z_iadd dX11_keep_196 (nI_add _ _) ?_
              refine z_aload_n dX11_keep_197 rfl rfl ?_
              refine z_getR dX11_keep_198 fl_X11_41 rfl rfl rfl ?_
              refine z_iload_n dX11_keep_201 rfl rfl ?_
              refine z_iald dX11_keep_202 rfl rfl (by omega) (show _ = σ 101 v by simp [z_up]) ?_
              refine z_iast dX11_keep_203 rfl rfl (by omega) ?_
              refine z_aload_n dX11_keep_204 rfl rfl ?_
              refine z_getR dX11_keep_205 fl_X11_60 rfl rfl rfl ?_
              refine z_bipush (v := nI 30) dX11_keep_208 (by decide) ?_
              refine z_iload_n dX11_keep_210 rfl rfl ?_
              refine z_imul dX11_keep_211 (pk_mul 30 t) ?_
              refine z_iload_n dX11_keep_212 rfl rfl ?_
              refine z_iadd dX11_keep_213 (nI_add _ _) ?_
              refine z_aload_n dX11_keep_214 rfl rfl ?_
              refine z_getR dX11_keep_215 fl_X11_44 rfl rfl rfl ?_
              refine z_iload_n dX11_keep_218 rfl rfl ?_
              refine z_zald dX11_keep_219 rfl rfl (by omega) (show _ = σ 102 v by simp [z_up]) ?_
              refine z_zast dX11_keep_220 rfl rfl (by omega) (hI.2.2.1 v hlt) ?_
              refine z_aload_n dX11_keep_221 rfl rfl ?_
              refine z_getR dX11_keep_222 fl_X11_63 rfl rfl rfl ?_
              refine z_bipush (v := nI 30) dX11_keep_225 (by decide) ?_
              refine z_iload_n dX11_keep_227 rfl rfl ?_
              refine z_imul dX11_keep_228 (pk_mul 30 t) ?_
              refine z_iload_n dX11_keep_229 rfl rfl ?_
              refine z_iadd dX11_keep_230 (nI_add _ _) ?_
              refine z_aload_n dX11_keep_231 rfl rfl ?_
              refine z_getR dX11_keep_232 fl_X11_69 rfl rfl rfl ?_
              refine z_iload_n dX11_keep_235 rfl rfl ?_
              refine z_iald dX11_keep_236 rfl rfl (by omega) (show _ = σ 109 t + kBI σ v by simp [z_up]) ?_
              refine z_aload_n dX11_keep_237 rfl rfl ?_
              refine z_getR dX11_keep_238 fl_X11_72 rfl rfl rfl ?_
              refine z_iload_n dX11_keep_241 rfl rfl ?_
              refine z_iald dX11_keep_242 rfl rfl (by omega) (show _ = σ 110 t + kGI σ v by simp [z_up]) ?_
              refine z_iadd dX11_keep_243 rfl ?_
              refine z_aload_n dX11_keep_244 rfl rfl ?_
              refine z_getR dX11_keep_245 fl_X11_75 rfl rfl rfl ?_
              refine z_iload_n dX11_keep_248 rfl rfl ?_
              refine z_iald dX11_keep_249 rfl rfl (by omega) (show _ = σ 111 t + kOI σ v by simp [z_up]) ?_
              refine z_iadd dX11_keep_250 rfl ?_
              refine z_iast dX11_keep_251 rfl rfl (by omega) ?_
              refine z_iinc dX11_keep_252 rfl (nI_i _) (by decide) ?_
              show z_V _ _ _ _ _ _ _ _ _ [_, _, _, _, _] _ _
              refine z_goto (tgt := 30) dX11_keep_255 (by decide) ?_
              exact ih m (by omega) (v + 1) _ _ _ (kpI_eq (fun b hb => kpT_ne hb) hI) (by omega)
            · have hO : kOI σ v = 1 := b2i_t c177
              refine z_iconst (v := 1) dX11_keep_180 (by decide) ?_
              refine z_goto (tgt := 185) dX11_keep_181 (by decide) ?_
              refine z_iadd dX11_keep_185 (show _ = σ 111 t + kOI σ v by rw [hO]) ?_
              refine z_iast dX11_keep_186 rfl rfl (by omega) ?_
              refine z_aload_n dX11_keep_187 rfl rfl ?_
              refine z_getR dX11_keep_188 fl_X11_57 rfl rfl rfl ?_
              refine z_bipush (v := nI 30) dX11_keep_191 (by decide) ?_
              refine z_iload_n dX11_keep_193 rfl rfl ?_
              refine z_imul dX11_keep_194 (pk_mul 30 t) ?_
              refine z_iload_n dX11_keep_195 rfl rfl ?_
              refine z_iadd dX11_keep_196 (nI_add _ _) ?_
              refine z_aload_n dX11_keep_197 rfl rfl ?_
              refine z_getR dX11_keep_198 fl_X11_41 rfl rfl rfl ?_
              refine z_iload_n dX11_keep_201 rfl rfl ?_
              refine z_iald dX11_keep_202 rfl rfl (by omega) (show _ = σ 101 v by simp [z_up]) ?_
              refine z_iast dX11_keep_203 rfl rfl (by omega) ?_
              refine z_aload_n dX11_keep_204 rfl rfl ?_
              refine z_getR dX11_keep_205 fl_X11_60 rfl rfl rfl ?_
              refine z_bipush (v := nI 30) dX11_keep_208 (by decide) ?_
              refine z_iload_n dX11_keep_210 rfl rfl ?_
              refine z_imul dX11_keep_211 (pk_mul 30 t) ?_
              refine z_iload_n dX11_keep_212 rfl rfl ?_
              refine z_iadd dX11_keep_213 (nI_add _ _) ?_
              refine z_aload_n dX11_keep_214 rfl rfl ?_
              refine z_getR dX11_keep_215 fl_X11_44 rfl rfl rfl ?_
              refine z_iload_n dX11_keep_218 rfl rfl ?_
              refine z_zald dX11_keep_219 rfl rfl (by omega) (show _ = σ 102 v by simp [z_up]) ?_
              refine z_zast dX11_keep_220 rfl rfl (by omega) (hI.2.2.1 v hlt) ?_
              refine z_aload_n dX11_keep_221 rfl rfl ?_
              refine z_getR dX11_keep_222 fl_X11_63 rfl rfl rfl ?_
              refine z_bipush (v := nI 30) dX11_keep_225 (by decide) ?_
              refine z_iload_n dX11_keep_227 rfl rfl ?_
              refine z_imul dX11_keep_228 (pk_mul 30 t) ?_
              refine z_iload_n dX11_keep_229 rfl rfl ?_
              refine z_iadd dX11_keep_230 (nI_add _ _) ?_
              refine z_aload_n dX11_keep_231 rfl rfl ?_
              refine z_getR dX11_keep_232 fl_X11_69 rfl rfl rfl ?_
              refine z_iload_n dX11_keep_235 rfl rfl ?_
              refine z_iald dX11_keep_236 rfl rfl (by omega) (show _ = σ 109 t + kBI σ v by simp [z_up]) ?_
              refine z_aload_n dX11_keep_237 rfl rfl ?_
              refine z_getR dX11_keep_238 fl_X11_72 rfl rfl rfl ?_
              refine z_iload_n dX11_keep_241 rfl rfl ?_
              refine z_iald dX11_keep_242 rfl rfl (by omega) (show _ = σ 110 t + kGI σ v by simp [z_up]) ?_
              refine z_iadd dX11_keep_243 rfl ?_
              refine z_aload_n dX11_keep_244 rfl rfl ?_
              refine z_getR dX11_keep_245 fl_X11_75 rfl rfl rfl ?_
              refine z_iload_n dX11_keep_248 rfl rfl ?_
              refine z_iald dX11_keep_249 rfl rfl (by omega) (show _ = σ 111 t + kOI σ v by simp [z_up]) ?_
              refine z_iadd dX11_keep_250 rfl ?_
              refine z_iast dX11_keep_251 rfl rfl (by omega) ?_
              refine z_iinc dX11_keep_252 rfl (nI_i _) (by decide) ?_
              show z_V _ _ _ _ _ _ _ _ _ [_, _, _, _, _] _ _
              refine z_goto (tgt := 30) dX11_keep_255 (by decide) ?_
              exact ih m (by omega) (v + 1) _ _ _ (kpI_eq (fun b hb => kpT_ne hb) hI) (by omega)
          · have hG : kGI σ v = 1 := b2i_t c153
            refine z_iconst (v := 1) dX11_keep_156 (by decide) ?_
            refine z_goto (tgt := 161) dX11_keep_157 (by decide) ?_
            refine z_iadd dX11_keep_161 (show _ = σ 110 t + kGI σ v by rw [hG]) ?_
            refine z_iast dX11_keep_162 rfl rfl (by omega) ?_
            refine z_aload_n dX11_keep_163 rfl rfl ?_
            refine z_getR dX11_keep_164 fl_X11_75 rfl rfl rfl ?_
            refine z_iload_n dX11_keep_167 rfl rfl ?_
            refine z_dup2 dX11_keep_168 rfl rfl ?_
            refine z_iald dX11_keep_169 rfl rfl (by omega) (show _ = σ 111 t by simp [z_up]) ?_
            refine z_aload_n dX11_keep_170 rfl rfl ?_
            refine z_getR dX11_keep_171 fl_X11_108 rfl rfl rfl ?_
            refine z_iload_n dX11_keep_174 rfl rfl ?_
            refine z_iald dX11_keep_175 rfl rfl (by omega) (show _ = σ 122 v by simp [z_up]) ?_
            refine z_iconst (v := nI 2) dX11_keep_176 (by decide) ?_
            refine z_icmp_ne (tgt := 184) dX11_keep_177 (by decide) (fun c177 => ?_) (fun c177 => ?_)
            · have hO : kOI σ v = 0 := b2i_f c177
              refine z_iconst (v := 0) dX11_keep_184 (by decide) ?_
              refine z_iadd dX11_keep_185 (show _ = σ 111 t + kOI σ v by rw [hO]) ?_
              refine z_iast dX11_keep_186 rfl rfl (by omega) ?_
              refine z_aload_n dX11_keep_187 rfl rfl ?_
              refine z_getR dX11_keep_188 fl_X11_57 rfl rfl rfl ?_
              refine z_bipush (v := nI 30) dX11_keep_191 (by decide) ?_
              refine z_iload_n dX11_keep_193 rfl rfl ?_
              refine z_imul dX11_keep_194 (pk_mul 30 t) ?_
              refine z_iload_n dX11_keep_195 rfl rfl ?_
              refine z_iadd dX11_keep_196 (nI_add _ _) ?_
              refine z_aload_n dX11_keep_197 rfl rfl ?_
              refine z_getR dX11_keep_198 fl_X11_41 rfl rfl rfl ?_
              refine z_iload_n dX11_keep_201 rfl rfl ?_
              refine z_iald dX11_keep_202 rfl rfl (by omega) (show _ = σ 101 v by simp [z_up]) ?_
              refine z_iast dX11_keep_203 rfl rfl (by omega) ?_
              refine z_aload_n dX11_keep_204 rfl rfl ?_
              refine z_getR dX11_keep_205 fl_X11_60 rfl rfl rfl ?_
              refine z_bipush (v := nI 30) dX11_keep_208 (by decide) ?_
              refine z_iload_n dX11_keep_210 rfl rfl ?_
              refine z_imul dX11_keep_211 (pk_mul 30 t) ?_
              refine z_iload_n dX11_keep_212 rfl rfl ?_
              refine z_iadd dX11_keep_213 (nI_add _ _) ?_
              refine z_aload_n dX11_keep_214 rfl rfl ?_
              refine z_getR dX11_keep_215 fl_X11_44 rfl rfl rfl ?_
              refine z_iload_n dX11_keep_218 rfl rfl ?_
              refine z_zald dX11_keep_219 rfl rfl (by omega) (show _ = σ 102 v by simp [z_up]) ?_
              refine z_zast dX11_keep_220 rfl rfl (by omega) (hI.2.2.1 v hlt) ?_
              refine z_aload_n dX11_keep_221 rfl rfl ?_
              refine z_getR dX11_keep_222 fl_X11_63 rfl rfl rfl ?_
              refine z_bipush (v := nI 30) dX11_keep_225 (by decide) ?_
              refine z_iload_n dX11_keep_227 rfl rfl ?_
              refine z_imul dX11_keep_228 (pk_mul 30 t) ?_
              refine z_iload_n dX11_keep_229 rfl rfl ?_
              refine z_iadd dX11_keep_230 (nI_add _ _) ?_
              refine z_aload_n dX11_keep_231 rfl rfl ?_
              refine z_getR dX11_keep_232 fl_X11_69 rfl rfl rfl ?_
              refine z_iload_n dX11_keep_235 rfl rfl ?_
              refine z_iald dX11_keep_236 rfl rfl (by omega) (show _ = σ 109 t + kBI σ v by simp [z_up]) ?_
              refine z_aload_n dX11_keep_237 rfl rfl ?_
              refine z_getR dX11_keep_238 fl_X11_72 rfl rfl rfl ?_
              refine z_iload_n dX11_keep_241 rfl rfl ?_
              refine z_iald dX11_keep_242 rfl rfl (by omega) (show _ = σ 110 t + kGI σ v by simp [z_up]) ?_
              refine z_iadd dX11_keep_243 rfl ?_
              refine z_aload_n dX11_keep_244 rfl rfl ?_
              refine z_getR dX11_keep_245 fl_X11_75 rfl rfl rfl ?_
              refine z_iload_n dX11_keep_248 rfl rfl ?_
              refine z_iald dX11_keep_249 rfl rfl (by omega) (show _ = σ 111 t + kOI σ v by simp [z_up]) ?_
              refine z_iadd dX11_keep_250 rfl ?_
              refine z_iast dX11_keep_251 rfl rfl (by omega) ?_
              refine z_iinc dX11_keep_252 rfl (nI_i _) (by decide) ?_
              show z_V _ _ _ _ _ _ _ _ _ [_, _, _, _, _] _ _
              refine z_goto (tgt := 30) dX11_keep_255 (by decide) ?_
              exact ih m (by omega) (v + 1) _ _ _ (kpI_eq (fun b hb => kpT_ne hb) hI) (by omega)
            · have hO : kOI σ v = 1 := b2i_t c177
              refine z_iconst (v := 1) dX11_keep_180 (by decide) ?_
              refine z_goto (tgt := 185) dX11_keep_181 (by decide) ?_
              refine z_iadd dX11_keep_185 (show _ = σ 111 t + kOI σ v by rw [hO]) ?_
              refine z_iast dX11_keep_186 rfl rfl (by omega) ?_
              refine z_aload_n dX11_keep_187 rfl rfl ?_
              refine z_getR dX11_keep_188 fl_X11_57 rfl rfl rfl ?_
              refine z_bipush (v := nI 30) dX11_keep_191 (by decide) ?_
              refine z_iload_n dX11_keep_193 rfl rfl ?_
              refine z_imul dX11_keep_194 (pk_mul 30 t) ?_
              refine z_iload_n dX11_keep_195 rfl rfl ?_
              refine z_iadd dX11_keep_196 (nI_add _ _) ?_
              refine z_aload_n dX11_keep_197 rfl rfl ?_
              refine z_getR dX11_keep_198 fl_X11_41 rfl rfl rfl ?_
              refine z_iload_n dX11_keep_201 rfl rfl ?_
              refine z_iald dX11_keep_202 rfl rfl (by omega) (show _ = σ 101 v by simp [z_up]) ?_
              refine z_iast dX11_keep_203 rfl rfl (by omega) ?_
              refine z_aload_n dX11_keep_204 rfl rfl ?_
              refine z_getR dX11_keep_205 fl_X11_60 rfl rfl rfl ?_
              refine z_bipush (v := nI 30) dX11_keep_208 (by decide) ?_
              refine z_iload_n dX11_keep_210 rfl rfl ?_
              refine z_imul dX11_keep_211 (pk_mul 30 t) ?_
              refine z_iload_n dX11_keep_212 rfl rfl ?_
              refine z_iadd dX11_keep_213 (nI_add _ _) ?_
              refine z_aload_n dX11_keep_214 rfl rfl ?_
              refine z_getR dX11_keep_215 fl_X11_44 rfl rfl rfl ?_
              refine z_iload_n dX11_keep_218 rfl rfl ?_
              refine z_zald dX11_keep_219 rfl rfl (by omega) (show _ = σ 102 v by simp [z_up]) ?_
              refine z_zast dX11_keep_220 rfl rfl (by omega) (hI.2.2.1 v hlt) ?_
              refine z_aload_n dX11_keep_221 rfl rfl ?_
              refine z_getR dX11_keep_222 fl_X11_63 rfl rfl rfl ?_
              refine z_bipush (v := nI 30) dX11_keep_225 (by decide) ?_
              refine z_iload_n dX11_keep_227 rfl rfl ?_
              refine z_imul dX11_keep_228 (pk_mul 30 t) ?_
              refine z_iload_n dX11_keep_229 rfl rfl ?_
              refine z_iadd dX11_keep_230 (nI_add _ _) ?_
              refine z_aload_n dX11_keep_231 rfl rfl ?_
              refine z_getR dX11_keep_232 fl_X11_69 rfl rfl rfl ?_
              refine z_iload_n dX11_keep_235 rfl rfl ?_
              refine z_iald dX11_keep_236 rfl rfl (by omega) (show _ = σ 109 t + kBI σ v by simp [z_up]) ?_
              refine z_aload_n dX11_keep_237 rfl rfl ?_
              refine z_getR dX11_keep_238 fl_X11_72 rfl rfl rfl ?_
              refine z_iload_n dX11_keep_241 rfl rfl ?_
              refine z_iald dX11_keep_242 rfl rfl (by omega) (show _ = σ 110 t + kGI σ v by simp [z_up]) ?_
              refine z_iadd dX11_keep_243 rfl ?_
              refine z_aload_n dX11_keep_244 rfl rfl ?_
              refine z_getR dX11_keep_245 fl_X11_75 rfl rfl rfl ?_
              refine z_iload_n dX11_keep_248 rfl rfl ?_
              refine z_iald dX11_keep_249 rfl rfl (by omega) (show _ = σ 111 t + kOI σ v by simp [z_up]) ?_
              refine z_iadd dX11_keep_250 rfl ?_
              refine z_iast dX11_keep_251 rfl rfl (by omega) ?_
              refine z_iinc dX11_keep_252 rfl (nI_i _) (by decide) ?_
              show z_V _ _ _ _ _ _ _ _ _ [_, _, _, _, _] _ _
              refine z_goto (tgt := 30) dX11_keep_255 (by decide) ?_
              exact ih m (by omega) (v + 1) _ _ _ (kpI_eq (fun b hb => kpT_ne hb) hI) (by omega)
        · refine z_iconst (v := 1) dX11_keep_76 (by decide) ?_
          refine z_goto (tgt := 81) dX11_keep_77 (by decide) ?_
          refine z_istore dX11_keep_81 (by decide) ?_
          show z_V _ _ _ _ _ _ _ _ _ [_, _, _, _, _] _ _
          refine z_aload_n dX11_keep_83 rfl rfl ?_
          refine z_getR dX11_keep_84 fl_X11_66 rfl rfl rfl ?_
          refine z_iload_n dX11_keep_87 rfl rfl ?_
          refine z_dup2 dX11_keep_88 rfl rfl ?_
          refine z_iald dX11_keep_89 rfl rfl (by omega) rfl ?_
          refine z_iload dX11_keep_90 rfl ?_
          refine z_if_eq (tgt := 108) dX11_keep_92 (by decide) (fun c_ => absurd c_ (by decide +kernel)) (fun _ => ?_)
          refine z_aload_n dX11_keep_95 rfl rfl ?_
          refine z_getR dX11_keep_96 fl_X11_96 rfl rfl rfl ?_
          refine z_iload_n dX11_keep_99 rfl rfl ?_
          refine z_zald dX11_keep_100 rfl rfl (by omega) (show _ = σ 118 q by simp [z_up]) ?_
          refine z_if_eq (tgt := 108) dX11_keep_101 (by decide) (fun c101 => ?_) (fun c101 => ?_)
          · have hH : kHI σ v = 0 := b2i_f (fun z => z.2.2 (by rw [hvq]; exact c101))
            have hB : kBI σ v = 1 := b2i_t ⟨hm2, by rw [hvq]; exact c73, by rw [hvq]; exact c101⟩
            refine z_iconst (v := 0) dX11_keep_108 (by decide) ?_
            refine z_iadd dX11_keep_109 (show _ = σ 108 t + kHI σ v by rw [hH]) ?_
            refine z_iast dX11_keep_110 rfl rfl (by omega) ?_
            refine z_aload_n dX11_keep_111 rfl rfl ?_
            refine z_getR dX11_keep_112 fl_X11_69 rfl rfl rfl ?_
            refine z_iload_n dX11_keep_115 rfl rfl ?_
            refine z_dup2 dX11_keep_116 rfl rfl ?_
            refine z_iald dX11_keep_117 rfl rfl (by omega) (show _ = σ 109 t by simp [z_up]) ?_
            refine z_iload dX11_keep_118 rfl ?_
            refine z_if_eq (tgt := 136) dX11_keep_120 (by decide) (fun c_ => absurd c_ (by decide +kernel)) (fun _ => ?_)
            refine z_aload_n dX11_keep_123 rfl rfl ?_
            refine z_getR dX11_keep_124 fl_X11_96 rfl rfl rfl ?_
            refine z_iload_n dX11_keep_127 rfl rfl ?_
            refine z_zald dX11_keep_128 rfl rfl (by omega) (show _ = σ 118 q by simp [z_up]) ?_
            refine z_if_ne (tgt := 136) dX11_keep_129 (by decide) (fun c_ => absurd (c101) c_) (fun _ => ?_)
            refine z_iconst (v := 1) dX11_keep_132 (by decide) ?_
            refine z_goto (tgt := 137) dX11_keep_133 (by decide) ?_
            refine z_iadd dX11_keep_137 (show _ = σ 109 t + kBI σ v by rw [hB]) ?_
            refine z_iast dX11_keep_138 rfl rfl (by omega) ?_
            refine z_aload_n dX11_keep_139 rfl rfl ?_
            refine z_getR dX11_keep_140 fl_X11_72 rfl rfl rfl ?_
            refine z_iload_n dX11_keep_143 rfl rfl ?_
            refine z_dup2 dX11_keep_144 rfl rfl ?_
            refine z_iald dX11_keep_145 rfl rfl (by omega) (show _ = σ 110 t by simp [z_up]) ?_
            refine z_aload_n dX11_keep_146 rfl rfl ?_
            refine z_getR dX11_keep_147 fl_X11_108 rfl rfl rfl ?_
            refine z_iload_n dX11_keep_150 rfl rfl ?_
            refine z_iald dX11_keep_151 rfl rfl (by omega) (show _ = σ 122 v by simp [z_up]) ?_
            refine z_iconst (v := 1) dX11_keep_152 (by decide) ?_
            refine z_icmp_ne (tgt := 160) dX11_keep_153 (by decide) (fun c153 => ?_) (fun c153 => ?_)
            · have hG : kGI σ v = 0 := b2i_f c153
              refine z_iconst (v := 0) dX11_keep_160 (by decide) ?_
              refine z_iadd dX11_keep_161 (show _ = σ 110 t + kGI σ v by rw [hG]) ?_
              refine z_iast dX11_keep_162 rfl rfl (by omega) ?_
              refine z_aload_n dX11_keep_163 rfl rfl ?_
              refine z_getR dX11_keep_164 fl_X11_75 rfl rfl rfl ?_
              refine z_iload_n dX11_keep_167 rfl rfl ?_
              refine z_dup2 dX11_keep_168 rfl rfl ?_
              refine z_iald dX11_keep_169 rfl rfl (by omega) (show _ = σ 111 t by simp [z_up]) ?_
              refine z_aload_n dX11_keep_170 rfl rfl ?_
              refine z_getR dX11_keep_171 fl_X11_108 rfl rfl rfl ?_
              refine z_iload_n dX11_keep_174 rfl rfl ?_
              refine z_iald dX11_keep_175 rfl rfl (by omega) (show _ = σ 122 v by simp [z_up]) ?_
              refine z_iconst (v := nI 2) dX11_keep_176 (by decide) ?_
              refine z_icmp_ne (tgt := 184) dX11_keep_177 (by decide) (fun c177 => ?_) (fun c177 => ?_)
              · have hO : kOI σ v = 0 := b2i_f c177
                refine z_iconst (v := 0) dX11_keep_184 (by decide) ?_
                refine z_iadd dX11_keep_185 (show _ = σ 111 t + kOI σ v by rw [hO]) ?_
                refine z_iast dX11_keep_186 rfl rfl (by omega) ?_
                refine z_aload_n dX11_keep_187 rfl rfl ?_
                refine z_getR dX11_keep_188 fl_X11_57 rfl rfl rfl ?_
                refine z_bipush (v := nI 30) dX11_keep_191 (by decide) ?_
                refine z_iload_n dX11_keep_193 rfl rfl ?_
                refine z_imul dX11_keep_194 (pk_mul 30 t) ?_
                refine z_iload_n dX11_keep_195 rfl rfl ?_
                refine z_iadd dX11_keep_196 (nI_add _ _) ?_
                refine z_aload_n dX11_keep_197 rfl rfl ?_
                refine z_getR dX11_keep_198 fl_X11_41 rfl rfl rfl ?_
                refine z_iload_n dX11_keep_201 rfl rfl ?_
                refine z_iald dX11_keep_202 rfl rfl (by omega) (show _ = σ 101 v by simp [z_up]) ?_
                refine z_iast dX11_keep_203 rfl rfl (by omega) ?_
                refine z_aload_n dX11_keep_204 rfl rfl ?_
                refine z_getR dX11_keep_205 fl_X11_60 rfl rfl rfl ?_
                refine z_bipush (v := nI 30) dX11_keep_208 (by decide) ?_
                refine z_iload_n dX11_keep_210 rfl rfl ?_
                refine z_imul dX11_keep_211 (pk_mul 30 t) ?_
                refine z_iload_n dX11_keep_212 rfl rfl ?_
                refine z_iadd dX11_keep_213 (nI_add _ _) ?_
                refine z_aload_n dX11_keep_214 rfl rfl ?_
                refine z_getR dX11_keep_215 fl_X11_44 rfl rfl rfl ?_
                refine z_iload_n dX11_keep_218 rfl rfl ?_
                refine z_zald dX11_keep_219 rfl rfl (by omega) (show _ = σ 102 v by simp [z_up]) ?_
                refine z_zast dX11_keep_220 rfl rfl (by omega) (hI.2.2.1 v hlt) ?_
                refine z_aload_n dX11_keep_221 rfl rfl ?_
                refine z_getR dX11_keep_222 fl_X11_63 rfl rfl rfl ?_
                refine z_bipush (v := nI 30) dX11_keep_225 (by decide) ?_
                refine z_iload_n dX11_keep_227 rfl rfl ?_
                refine z_imul dX11_keep_228 (pk_mul 30 t) ?_
                refine z_iload_n dX11_keep_229 rfl rfl ?_
                refine z_iadd dX11_keep_230 (nI_add _ _) ?_
                refine z_aload_n dX11_keep_231 rfl rfl ?_
                refine z_getR dX11_keep_232 fl_X11_69 rfl rfl rfl ?_
                refine z_iload_n dX11_keep_235 rfl rfl ?_
                refine z_iald dX11_keep_236 rfl rfl (by omega) (show _ = σ 109 t + kBI σ v by simp [z_up]) ?_
                refine z_aload_n dX11_keep_237 rfl rfl ?_
                refine z_getR dX11_keep_238 fl_X11_72 rfl rfl rfl ?_
                refine z_iload_n dX11_keep_241 rfl rfl ?_
                refine z_iald dX11_keep_242 rfl rfl (by omega) (show _ = σ 110 t + kGI σ v by simp [z_up]) ?_
                refine z_iadd dX11_keep_243 rfl ?_
                refine z_aload_n dX11_keep_244 rfl rfl ?_
                refine z_getR dX11_keep_245 fl_X11_75 rfl rfl rfl ?_
                refine z_iload_n dX11_keep_248 rfl rfl ?_
                refine z_iald dX11_keep_249 rfl rfl (by omega) (show _ = σ 111 t + kOI σ v by simp [z_up]) ?_
                refine z_iadd dX11_keep_250 rfl ?_
                refine z_iast dX11_keep_251 rfl rfl (by omega) ?_
                refine z_iinc dX11_keep_252 rfl (nI_i _) (by decide) ?_
                show z_V _ _ _ _ _ _ _ _ _ [_, _, _, _, _] _ _
                refine z_goto (tgt := 30) dX11_keep_255 (by decide) ?_
                exact ih m (by omega) (v + 1) _ _ _ (kpI_eq (fun b hb => kpT_ne hb) hI) (by omega)
              · have hO : kOI σ v = 1 := b2i_t c177
                refine z_iconst (v := 1) dX11_keep_180 (by decide) ?_
                refine z_goto (tgt := 185) dX11_keep_181 (by decide) ?_
                refine z_iadd dX11_keep_185 (show _ = σ 111 t + kOI σ v by rw [hO]) ?_
                refine z_iast dX11_keep_186 rfl rfl (by omega) ?_
                refine z_aload_n dX11_keep_187 rfl rfl ?_
                refine z_getR dX11_keep_188 fl_X11_57 rfl rfl rfl ?_
                refine z_bipush (v := nI 30) dX11_keep_191 (by decide) ?_
                refine z_iload_n dX11_keep_193 rfl rfl ?_
                refine z_imul dX11_keep_194 (pk_mul 30 t) ?_
                refine z_iload_n dX11_keep_195 rfl rfl ?_
                refine z_iadd dX11_keep_196 (nI_add _ _) ?_
                refine z_aload_n dX11_keep_197 rfl rfl ?_
                refine z_getR dX11_keep_198 fl_X11_41 rfl rfl rfl ?_
                refine z_iload_n dX11_keep_201 rfl rfl ?_
                refine z_iald dX11_keep_202 rfl rfl (by omega) (show _ = σ 101 v by simp [z_up]) ?_
                refine z_iast dX11_keep_203 rfl rfl (by omega) ?_
                refine z_aload_n dX11_keep_204 rfl rfl ?_
                refine z_getR dX11_keep_205 fl_X11_60 rfl rfl rfl ?_
                refine z_bipush (v := nI 30) dX11_keep_208 (by decide) ?_
                refine z_iload_n dX11_keep_210 rfl rfl ?_
                refine z_imul dX11_keep_211 (pk_mul 30 t) ?_
                refine z_iload_n dX11_keep_212 rfl rfl ?_
                refine z_iadd dX11_keep_213 (nI_add _ _) ?_
                refine z_aload_n dX11_keep_214 rfl rfl ?_
                refine z_getR dX11_keep_215 fl_X11_44 rfl rfl rfl ?_
                refine z_iload_n dX11_keep_218 rfl rfl ?_
                refine z_zald dX11_keep_219 rfl rfl (by omega) (show _ = σ 102 v by simp [z_up]) ?_
                refine z_zast dX11_keep_220 rfl rfl (by omega) (hI.2.2.1 v hlt) ?_
                refine z_aload_n dX11_keep_221 rfl rfl ?_
                refine z_getR dX11_keep_222 fl_X11_63 rfl rfl rfl ?_
                refine z_bipush (v := nI 30) dX11_keep_225 (by decide) ?_
                refine z_iload_n dX11_keep_227 rfl rfl ?_
                refine z_imul dX11_keep_228 (pk_mul 30 t) ?_
                refine z_iload_n dX11_keep_229 rfl rfl ?_
                refine z_iadd dX11_keep_230 (nI_add _ _) ?_
                refine z_aload_n dX11_keep_231 rfl rfl ?_
                refine z_getR dX11_keep_232 fl_X11_69 rfl rfl rfl ?_
                refine z_iload_n dX11_keep_235 rfl rfl ?_
                refine z_iald dX11_keep_236 rfl rfl (by omega) (show _ = σ 109 t + kBI σ v by simp [z_up]) ?_
                refine z_aload_n dX11_keep_237 rfl rfl ?_
                refine z_getR dX11_keep_238 fl_X11_72 rfl rfl rfl ?_
                refine z_iload_n dX11_keep_241 rfl rfl ?_
                refine z_iald dX11_keep_242 rfl rfl (by omega) (show _ = σ 110 t + kGI σ v by simp [z_up]) ?_
                refine z_iadd dX11_keep_243 rfl ?_
                refine z_aload_n dX11_keep_244 rfl rfl ?_
                refine z_getR dX11_keep_245 fl_X11_75 rfl rfl rfl ?_
                refine z_iload_n dX11_keep_248 rfl rfl ?_
                refine z_iald dX11_keep_249 rfl rfl (by omega) (show _ = σ 111 t + kOI σ v by simp [z_up]) ?_
                refine z_iadd dX11_keep_250 rfl ?_
                refine z_iast dX11_keep_251 rfl rfl (by omega) ?_
                refine z_iinc dX11_keep_252 rfl (nI_i _) (by decide) ?_
                show z_V _ _ _ _ _ _ _ _ _ [_, _, _, _, _] _ _
                refine z_goto (tgt := 30) dX11_keep_255 (by decide) ?_
                exact ih m (by omega) (v + 1) _ _ _ (kpI_eq (fun b hb => kpT_ne hb) hI) (by omega)
            · have hG : kGI σ v = 1 := b2i_t c153
              refine z_iconst (v := 1) dX11_keep_156 (by decide) ?_
              refine z_goto (tgt := 161) dX11_keep_157 (by decide) ?_
              refine z_iadd dX11_keep_161 (show _ = σ 110 t + kGI σ v by rw [hG]) ?_
              refine z_iast dX11_keep_162 rfl rfl (by omega) ?_
              refine z_aload_n dX11_keep_163 rfl rfl ?_
              refine z_getR dX11_keep_164 fl_X11_75 rfl rfl rfl ?_
              refine z_iload_n dX11_keep_167 rfl rfl ?_
              refine z_dup2 dX11_keep_168 rfl rfl ?_
              refine z_iald dX11_keep_169 rfl rfl (by omega) (show _ = σ 111 t by simp [z_up]) ?_
              refine z_aload_n dX11_keep_170 rfl rfl ?_
              refine z_getR dX11_keep_171 fl_X11_108 rfl rfl rfl ?_
              refine z_iload_n dX11_keep_174 rfl rfl ?_
              refine z_iald dX11_keep_175 rfl rfl (by omega) (show _ = σ 122 v by simp [z_up]) ?_
              refine z_iconst (v := nI 2) dX11_keep_176 (by decide) ?_
              refine z_icmp_ne (tgt := 184) dX11_keep_177 (by decide) (fun c177 => ?_) (fun c177 => ?_)
              · have hO : kOI σ v = 0 := b2i_f c177
                refine z_iconst (v := 0) dX11_keep_184 (by decide) ?_
                refine z_iadd dX11_keep_185 (show _ = σ 111 t + kOI σ v by rw [hO]) ?_
                refine z_iast dX11_keep_186 rfl rfl (by omega) ?_
                refine z_aload_n dX11_keep_187 rfl rfl ?_
                refine z_getR dX11_keep_188 fl_X11_57 rfl rfl rfl ?_
                refine z_bipush (v := nI 30) dX11_keep_191 (by decide) ?_
                refine z_iload_n dX11_keep_193 rfl rfl ?_
                refine z_imul dX11_keep_194 (pk_mul 30 t) ?_
                refine z_iload_n dX11_keep_195 rfl rfl ?_
                refine z_iadd dX11_keep_196 (nI_add _ _) ?_
                refine z_aload_n dX11_keep_197 rfl rfl ?_
                refine z_getR dX11_keep_198 fl_X11_41 rfl rfl rfl ?_
                refine z_iload_n dX11_keep_201 rfl rfl ?_
                refine z_iald dX11_keep_202 rfl rfl (by omega) (show _ = σ 101 v by simp [z_up]) ?_
                refine z_iast dX11_keep_203 rfl rfl (by omega) ?_
                refine z_aload_n dX11_keep_204 rfl rfl ?_
                refine z_getR dX11_keep_205 fl_X11_60 rfl rfl rfl ?_
                refine z_bipush (v := nI 30) dX11_keep_208 (by decide) ?_
                refine z_iload_n dX11_keep_210 rfl rfl ?_
                refine z_imul dX11_keep_211 (pk_mul 30 t) ?_
                refine z_iload_n dX11_keep_212 rfl rfl ?_
                refine z_iadd dX11_keep_213 (nI_add _ _) ?_
                refine z_aload_n dX11_keep_214 rfl rfl ?_
                refine z_getR dX11_keep_215 fl_X11_44 rfl rfl rfl ?_
                refine z_iload_n dX11_keep_218 rfl rfl ?_
                refine z_zald dX11_keep_219 rfl rfl (by omega) (show _ = σ 102 v by simp [z_up]) ?_
                refine z_zast dX11_keep_220 rfl rfl (by omega) (hI.2.2.1 v hlt) ?_
                refine z_aload_n dX11_keep_221 rfl rfl ?_
                refine z_getR dX11_keep_222 fl_X11_63 rfl rfl rfl ?_
                refine z_bipush (v := nI 30) dX11_keep_225 (by decide) ?_
                refine z_iload_n dX11_keep_227 rfl rfl ?_
                refine z_imul dX11_keep_228 (pk_mul 30 t) ?_
                refine z_iload_n dX11_keep_229 rfl rfl ?_
                refine z_iadd dX11_keep_230 (nI_add _ _) ?_
                refine z_aload_n dX11_keep_231 rfl rfl ?_
                refine z_getR dX11_keep_232 fl_X11_69 rfl rfl rfl ?_
                refine z_iload_n dX11_keep_235 rfl rfl ?_
                refine z_iald dX11_keep_236 rfl rfl (by omega) (show _ = σ 109 t + kBI σ v by simp [z_up]) ?_
                refine z_aload_n dX11_keep_237 rfl rfl ?_
                refine z_getR dX11_keep_238 fl_X11_72 rfl rfl rfl ?_
                refine z_iload_n dX11_keep_241 rfl rfl ?_
                refine z_iald dX11_keep_242 rfl rfl (by omega) (show _ = σ 110 t + kGI σ v by simp [z_up]) ?_
                refine z_iadd dX11_keep_243 rfl ?_
                refine z_aload_n dX11_keep_244 rfl rfl ?_
                refine z_getR dX11_keep_245 fl_X11_75 rfl rfl rfl ?_
                refine z_iload_n dX11_keep_248 rfl rfl ?_
                refine z_iald dX11_keep_249 rfl rfl (by omega) (show _ = σ 111 t + kOI σ v by simp [z_up]) ?_
                refine z_iadd dX11_keep_250 rfl ?_
                refine z_iast dX11_keep_251 rfl rfl (by omega) ?_
                refine z_iinc dX11_keep_252 rfl (nI_i _) (by decide) ?_
                show z_V _ _ _ _ _ _ _ _ _ [_, _, _, _, _] _ _
                refine z_goto (tgt := 30) dX11_keep_255 (by decide) ?_
                exact ih m (by omega) (v + 1) _ _ _ (kpI_eq (fun b hb => kpT_ne hb) hI) (by omega)
              · have hO : kOI σ v = 1 := b2i_t c177
                refine z_iconst (v := 1) dX11_keep_180 (by decide) ?_
                refine z_goto (tgt := 185) dX11_keep_181 (by decide) ?_
                refine z_iadd dX11_keep_185 (show _ = σ 111 t + kOI σ v by rw [hO]) ?_
                refine z_iast dX11_keep_186 rfl rfl (by omega) ?_
                refine z_aload_n dX11_keep_187 rfl rfl ?_
                refine z_getR dX11_keep_188 fl_X11_57 rfl rfl rfl ?_
                refine z_bipush (v := nI 30) dX11_keep_191 (by decide) ?_
                refine z_iload_n dX11_keep_193 rfl rfl ?_
                refine z_imul dX11_keep_194 (pk_mul 30 t) ?_
                refine z_iload_n dX11_keep_195 rfl rfl ?_
                refine z_iadd dX11_keep_196 (nI_add _ _) ?_
                refine z_aload_n dX11_keep_197 rfl rfl ?_
                refine z_getR dX11_keep_198 fl_X11_41 rfl rfl rfl ?_
                refine z_iload_n dX11_keep_201 rfl rfl ?_
                refine z_iald dX11_keep_202 rfl rfl (by omega) (show _ = σ 101 v by simp [z_up]) ?_
                refine z_iast dX11_keep_203 rfl rfl (by omega) ?_
                refine z_aload_n dX11_keep_204 rfl rfl ?_
                refine z_getR dX11_keep_205 fl_X11_60 rfl rfl rfl ?_
                refine z_bipush (v := nI 30) dX11_keep_208 (by decide) ?_
                refine z_iload_n dX11_keep_210 rfl rfl ?_
                refine z_imul dX11_keep_211 (pk_mul 30 t) ?_
                refine z_iload_n dX11_keep_212 rfl rfl ?_
                refine z_iadd dX11_keep_213 (nI_add _ _) ?_
                refine z_aload_n dX11_keep_214 rfl rfl ?_
                refine z_getR dX11_keep_215 fl_X11_44 rfl rfl rfl ?_
                refine z_iload_n dX11_keep_218 rfl rfl ?_
                refine z_zald dX11_keep_219 rfl rfl (by omega) (show _ = σ 102 v by simp [z_up]) ?_
                refine z_zast dX11_keep_220 rfl rfl (by omega) (hI.2.2.1 v hlt) ?_
                refine z_aload_n dX11_keep_221 rfl rfl ?_
                refine z_getR dX11_keep_222 fl_X11_63 rfl rfl rfl ?_
                refine z_bipush (v := nI 30) dX11_keep_225 (by decide) ?_
                refine z_iload_n dX11_keep_227 rfl rfl ?_
                refine z_imul dX11_keep_228 (pk_mul 30 t) ?_
                refine z_iload_n dX11_keep_229 rfl rfl ?_
                refine z_iadd dX11_keep_230 (nI_add _ _) ?_
                refine z_aload_n dX11_keep_231 rfl rfl ?_
                refine z_getR dX11_keep_232 fl_X11_69 rfl rfl rfl ?_
                refine z_iload_n dX11_keep_235 rfl rfl ?_
                refine z_iald dX11_keep_236 rfl rfl (by omega) (show _ = σ 109 t + kBI σ v by simp [z_up]) ?_
                refine z_aload_n dX11_keep_237 rfl rfl ?_
                refine z_getR dX11_keep_238 fl_X11_72 rfl rfl rfl ?_
                refine z_iload_n dX11_keep_241 rfl rfl ?_
                refine z_iald dX11_keep_242 rfl rfl (by omega) (show _ = σ 110 t + kGI σ v by simp [z_up]) ?_
                refine z_iadd dX11_keep_243 rfl ?_
                refine z_aload_n dX11_keep_244 rfl rfl ?_
                refine z_getR dX11_keep_245 fl_X11_75 rfl rfl rfl ?_
                refine z_iload_n dX11_keep_248 rfl rfl ?_
                refine z_iald dX11_keep_249 rfl rfl (by omega) (show _ = σ 111 t + kOI σ v by simp [z_up]) ?_
                refine z_iadd dX11_keep_250 rfl ?_
                refine z_iast dX11_keep_251 rfl rfl (by omega) ?_
                refine z_iinc dX11_keep_252 rfl (nI_i _) (by decide) ?_
                show z_V _ _ _ _ _ _ _ _ _ [_, _, _, _, _] _ _
                refine z_goto (tgt := 30) dX11_keep_255 (by decide) ?_
                exact ih m (by omega) (v + 1) _ _ _ (kpI_eq (fun b hb => kpT_ne hb) hI) (by omega)
          · have hH : kHI σ v = 1 := b2i_t ⟨hm2, by rw [hvq]; exact c73, by rw [hvq]; exact c101⟩
            have hB : kBI σ v = 0 := b2i_f (fun z => c101 (by rw [← hvq]; exact z.2.2))
            refine z_iconst (v := 1) dX11_keep_104 (by decide) ?_
            refine z_goto (tgt := 109) dX11_keep_105 (by decide) ?_
            refine z_iadd dX11_keep_109 (show _ = σ 108 t + kHI σ v by rw [hH]) ?_
            refine z_iast dX11_keep_110 rfl rfl (by omega) ?_
            refine z_aload_n dX11_keep_111 rfl rfl ?_
            refine z_getR dX11_keep_112 fl_X11_69 rfl rfl rfl ?_
            refine z_iload_n dX11_keep_115 rfl rfl ?_
            refine z_dup2 dX11_keep_116 rfl rfl ?_
            refine z_iald dX11_keep_117 rfl rfl (by omega) (show _ = σ 109 t by simp [z_up]) ?_
            refine z_iload dX11_keep_118 rfl ?_
            refine z_if_eq (tgt := 136) dX11_keep_120 (by decide) (fun c_ => absurd c_ (by decide +kernel)) (fun _ => ?_)
            refine z_aload_n dX11_keep_123 rfl rfl ?_
            refine z_getR dX11_keep_124 fl_X11_96 rfl rfl rfl ?_
            refine z_iload_n dX11_keep_127 rfl rfl ?_
            refine z_zald dX11_keep_128 rfl rfl (by omega) (show _ = σ 118 q by simp [z_up]) ?_
            refine z_if_ne (tgt := 136) dX11_keep_129 (by decide) (fun _ => ?_) (fun c_ => absurd c_ (c101))
            refine z_iconst (v := 0) dX11_keep_136 (by decide) ?_
            refine z_iadd dX11_keep_137 (show _ = σ 109 t + kBI σ v by rw [hB]) ?_
            refine z_iast dX11_keep_138 rfl rfl (by omega) ?_
            refine z_aload_n dX11_keep_139 rfl rfl ?_
            refine z_getR dX11_keep_140 fl_X11_72 rfl rfl rfl ?_
            refine z_iload_n dX11_keep_143 rfl rfl ?_
            refine z_dup2 dX11_keep_144 rfl rfl ?_
            refine z_iald dX11_keep_145 rfl rfl (by omega) (show _ = σ 110 t by simp [z_up]) ?_
            refine z_aload_n dX11_keep_146 rfl rfl ?_
            refine z_getR dX11_keep_147 fl_X11_108 rfl rfl rfl ?_
            refine z_iload_n dX11_keep_150 rfl rfl ?_
            refine z_iald dX11_keep_151 rfl rfl (by omega) (show _ = σ 122 v by simp [z_up]) ?_
            refine z_iconst (v := 1) dX11_keep_152 (by decide) ?_
            refine z_icmp_ne (tgt := 160) dX11_keep_153 (by decide) (fun c153 => ?_) (fun c153 => ?_)
            · have hG : kGI σ v = 0 := b2i_f c153
              refine z_iconst (v := 0) dX11_keep_160 (by decide) ?_
              refine z_iadd dX11_keep_161 (show _ = σ 110 t + kGI σ v by rw [hG]) ?_
              refine z_iast dX11_keep_162 rfl rfl (by omega) ?_
              refine z_aload_n dX11_keep_163 rfl rfl ?_
              refine z_getR dX11_keep_164 fl_X11_75 rfl rfl rfl ?_
              refine z_iload_n dX11_keep_167 rfl rfl ?_
              refine z_dup2 dX11_keep_168 rfl rfl ?_
              refine z_iald dX11_keep_169 rfl rfl (by omega) (show _ = σ 111 t by simp [z_up]) ?_
              refine z_aload_n dX11_keep_170 rfl rfl ?_
              refine z_getR dX11_keep_171 fl_X11_108 rfl rfl rfl ?_
              refine z_iload_n dX11_keep_174 rfl rfl ?_
              refine z_iald dX11_keep_175 rfl rfl (by omega) (show _ = σ 122 v by simp [z_up]) ?_
              refine z_iconst (v := nI 2) dX11_keep_176 (by decide) ?_
              refine z_icmp_ne (tgt := 184) dX11_keep_177 (by decide) (fun c177 => ?_) (fun c177 => ?_)
              · have hO : kOI σ v = 0 := b2i_f c177
                refine z_iconst (v := 0) dX11_keep_184 (by decide) ?_
                refine z_iadd dX11_keep_185 (show _ = σ 111 t + kOI σ v by rw [hO]) ?_
                refine z_iast dX11_keep_186 rfl rfl (by omega) ?_
                refine z_aload_n dX11_keep_187 rfl rfl ?_
                refine z_getR dX11_keep_188 fl_X11_57 rfl rfl rfl ?_
                refine z_bipush (v := nI 30) dX11_keep_191 (by decide) ?_
                refine z_iload_n dX11_keep_193 rfl rfl ?_
                refine z_imul dX11_keep_194 (pk_mul 30 t) ?_
                refine z_iload_n dX11_keep_195 rfl rfl ?_
                refine z_iadd dX11_keep_196 (nI_add _ _) ?_
                refine z_aload_n dX11_keep_197 rfl rfl ?_
                refine z_getR dX11_keep_198 fl_X11_41 rfl rfl rfl ?_
                refine z_iload_n dX11_keep_201 rfl rfl ?_
                refine z_iald dX11_keep_202 rfl rfl (by omega) (show _ = σ 101 v by simp [z_up]) ?_
                refine z_iast dX11_keep_203 rfl rfl (by omega) ?_
                refine z_aload_n dX11_keep_204 rfl rfl ?_
                refine z_getR dX11_keep_205 fl_X11_60 rfl rfl rfl ?_
                refine z_bipush (v := nI 30) dX11_keep_208 (by decide) ?_
                refine z_iload_n dX11_keep_210 rfl rfl ?_
                refine z_imul dX11_keep_211 (pk_mul 30 t) ?_
                refine z_iload_n dX11_keep_212 rfl rfl ?_
                refine z_iadd dX11_keep_213 (nI_add _ _) ?_
                refine z_aload_n dX11_keep_214 rfl rfl ?_
                refine z_getR dX11_keep_215 fl_X11_44 rfl rfl rfl ?_
                refine z_iload_n dX11_keep_218 rfl rfl ?_
                refine z_zald dX11_keep_219 rfl rfl (by omega) (show _ = σ 102 v by simp [z_up]) ?_
                refine z_zast dX11_keep_220 rfl rfl (by omega) (hI.2.2.1 v hlt) ?_
                refine z_aload_n dX11_keep_221 rfl rfl ?_
                refine z_getR dX11_keep_222 fl_X11_63 rfl rfl rfl ?_
                refine z_bipush (v := nI 30) dX11_keep_225 (by decide) ?_
                refine z_iload_n dX11_keep_227 rfl rfl ?_
                refine z_imul dX11_keep_228 (pk_mul 30 t) ?_
                refine z_iload_n dX11_keep_229 rfl rfl ?_
                refine z_iadd dX11_keep_230 (nI_add _ _) ?_
                refine z_aload_n dX11_keep_231 rfl rfl ?_
                refine z_getR dX11_keep_232 fl_X11_69 rfl rfl rfl ?_
                refine z_iload_n dX11_keep_235 rfl rfl ?_
                refine z_iald dX11_keep_236 rfl rfl (by omega) (show _ = σ 109 t + kBI σ v by simp [z_up]) ?_
                refine z_aload_n dX11_keep_237 rfl rfl ?_
                refine z_getR dX11_keep_238 fl_X11_72 rfl rfl rfl ?_
                refine z_iload_n dX11_keep_241 rfl rfl ?_
                refine z_iald dX11_keep_242 rfl rfl (by omega) (show _ = σ 110 t + kGI σ v by simp [z_up]) ?_
                refine z_iadd dX11_keep_243 rfl ?_
                refine z_aload_n dX11_keep_244 rfl rfl ?_
                refine z_getR dX11_keep_245 fl_X11_75 rfl rfl rfl ?_
                refine z_iload_n dX11_keep_248 rfl rfl ?_
                refine z_iald dX11_keep_249 rfl rfl (by omega) (show _ = σ 111 t + kOI σ v by simp [z_up]) ?_
                refine z_iadd dX11_keep_250 rfl ?_
                refine z_iast dX11_keep_251 rfl rfl (by omega) ?_
                refine z_iinc dX11_keep_252 rfl (nI_i _) (by decide) ?_
                show z_V _ _ _ _ _ _ _ _ _ [_, _, _, _, _] _ _
                refine z_goto (tgt := 30) dX11_keep_255 (by decide) ?_
                exact ih m (by omega) (v + 1) _ _ _ (kpI_eq (fun b hb => kpT_ne hb) hI) (by omega)
              · have hO : kOI σ v = 1 := b2i_t c177
                refine z_iconst (v := 1) dX11_keep_180 (by decide) ?_
                refine z_goto (tgt := 185) dX11_keep_181 (by decide) ?_
                refine z_iadd dX11_keep_185 (show _ = σ 111 t + kOI σ v by rw [hO]) ?_
                refine z_iast dX11_keep_186 rfl rfl (by omega) ?_
                refine z_aload_n dX11_keep_187 rfl rfl ?_
                refine z_getR dX11_keep_188 fl_X11_57 rfl rfl rfl ?_
                refine z_bipush (v := nI 30) dX11_keep_191 (by decide) ?_
                refine z_iload_n dX11_keep_193 rfl rfl ?_
                refine z_imul dX11_keep_194 (pk_mul 30 t) ?_
                refine z_iload_n dX11_keep_195 rfl rfl ?_
                refine z_iadd dX11_keep_196 (nI_add _ _) ?_
                refine z_aload_n dX11_keep_197 rfl rfl ?_
                refine z_getR dX11_keep_198 fl_X11_41 rfl rfl rfl ?_
                refine z_iload_n dX11_keep_201 rfl rfl ?_
                refine z_iald dX11_keep_202 rfl rfl (by omega) (show _ = σ 101 v by simp [z_up]) ?_
                refine z_iast dX11_keep_203 rfl rfl (by omega) ?_
                refine z_aload_n dX11_keep_204 rfl rfl ?_
                refine z_getR dX11_keep_205 fl_X11_60 rfl rfl rfl ?_
                refine z_bipush (v := nI 30) dX11_keep_208 (by decide) ?_
                refine z_iload_n dX11_keep_210 rfl rfl ?_
                refine z_imul dX11_keep_211 (pk_mul 30 t) ?_
                refine z_iload_n dX11_keep_212 rfl rfl ?_
                refine z_iadd dX11_keep_213 (nI_add _ _) ?_
                refine z_aload_n dX11_keep_214 rfl rfl ?_
                refine z_getR dX11_keep_215 fl_X11_44 rfl rfl rfl ?_
                refine z_iload_n dX11_keep_218 rfl rfl ?_
                refine z_zald dX11_keep_219 rfl rfl (by omega) (show _ = σ 102 v by simp [z_up]) ?_
                refine z_zast dX11_keep_220 rfl rfl (by omega) (hI.2.2.1 v hlt) ?_
                refine z_aload_n dX11_keep_221 rfl rfl ?_
                refine z_getR dX11_keep_222 fl_X11_63 rfl rfl rfl ?_
                refine z_bipush (v := nI 30) dX11_keep_225 (by decide) ?_
                refine z_iload_n dX11_keep_227 rfl rfl ?_
                refine z_imul dX11_keep_228 (pk_mul 30 t) ?_
                refine z_iload_n dX11_keep_229 rfl rfl ?_
                refine z_iadd dX11_keep_230 (nI_add _ _) ?_
                refine z_aload_n dX11_keep_231 rfl rfl ?_
                refine z_getR dX11_keep_232 fl_X11_69 rfl rfl rfl ?_
                refine z_iload_n dX11_keep_235 rfl rfl ?_
                refine z_iald dX11_keep_236 rfl rfl (by omega) (show _ = σ 109 t + kBI σ v by simp [z_up]) ?_
                refine z_aload_n dX11_keep_237 rfl rfl ?_
                refine z_getR dX11_keep_238 fl_X11_72 rfl rfl rfl ?_
                refine z_iload_n dX11_keep_241 rfl rfl ?_
                refine z_iald dX11_keep_242 rfl rfl (by omega) (show _ = σ 110 t + kGI σ v by simp [z_up]) ?_
                refine z_iadd dX11_keep_243 rfl ?_
                refine z_aload_n dX11_keep_244 rfl rfl ?_
                refine z_getR dX11_keep_245 fl_X11_75 rfl rfl rfl ?_
                refine z_iload_n dX11_keep_248 rfl rfl ?_
                refine z_iald dX11_keep_249 rfl rfl (by omega) (show _ = σ 111 t + kOI σ v by simp [z_up]) ?_
                refine z_iadd dX11_keep_250 rfl ?_
                refine z_iast dX11_keep_251 rfl rfl (by omega) ?_
                refine z_iinc dX11_keep_252 rfl (nI_i _) (by decide) ?_
                show z_V _ _ _ _ _ _ _ _ _ [_, _, _, _, _] _ _
                refine z_goto (tgt := 30) dX11_keep_255 (by decide) ?_
                exact ih m (by omega) (v + 1) _ _ _ (kpI_eq (fun b hb => kpT_ne hb) hI) (by omega)
            · have hG : kGI σ v = 1 := b2i_t c153
              refine z_iconst (v := 1) dX11_keep_156 (by decide) ?_
              refine z_goto (tgt := 161) dX11_keep_157 (by decide) ?_
              refine z_iadd dX11_keep_161 (show _ = σ 110 t + kGI σ v by rw [hG]) ?_
              refine z_iast dX11_keep_162 rfl rfl (by omega) ?_
              refine z_aload_n dX11_keep_163 rfl rfl ?_
              refine z_getR dX11_keep_164 fl_X11_75 rfl rfl rfl ?_
              refine z_iload_n dX11_keep_167 rfl rfl ?_
              refine z_dup2 dX11_keep_168 rfl rfl ?_
              refine z_iald dX11_keep_169 rfl rfl (by omega) (show _ = σ 111 t by simp [z_up]) ?_
              refine z_aload_n dX11_keep_170 rfl rfl ?_
              refine z_getR dX11_keep_171 fl_X11_108 rfl rfl rfl ?_
              refine z_iload_n dX11_keep_174 rfl rfl ?_
              refine z_iald dX11_keep_175 rfl rfl (by omega) (show _ = σ 122 v by simp [z_up]) ?_
              refine z_iconst (v := nI 2) dX11_keep_176 (by decide) ?_
              refine z_icmp_ne (tgt := 184) dX11_keep_177 (by decide) (fun c177 => ?_) (fun c177 => ?_)
              · have hO : kOI σ v = 0 := b2i_f c177
                refine z_iconst (v := 0) dX11_keep_184 (by decide) ?_
                refine z_iadd dX11_keep_185 (show _ = σ 111 t + kOI σ v by rw [hO]) ?_
                refine z_iast dX11_keep_186 rfl rfl (by omega) ?_
                refine z_aload_n dX11_keep_187 rfl rfl ?_
                refine z_getR dX11_keep_188 fl_X11_57 rfl rfl rfl ?_
                refine z_bipush (v := nI 30) dX11_keep_191 (by decide) ?_
                refine z_iload_n dX11_keep_193 rfl rfl ?_
                refine z_imul dX11_keep_194 (pk_mul 30 t) ?_
                refine z_iload_n dX11_keep_195 rfl rfl ?_
                refine z_iadd dX11_keep_196 (nI_add _ _) ?_
                refine z_aload_n dX11_keep_197 rfl rfl ?_
                refine z_getR dX11_keep_198 fl_X11_41 rfl rfl rfl ?_
                refine z_iload_n dX11_keep_201 rfl rfl ?_
                refine z_iald dX11_keep_202 rfl rfl (by omega) (show _ = σ 101 v by simp [z_up]) ?_
                refine z_iast dX11_keep_203 rfl rfl (by omega) ?_
                refine z_aload_n dX11_keep_204 rfl rfl ?_
                refine z_getR dX11_keep_205 fl_X11_60 rfl rfl rfl ?_
                refine z_bipush (v := nI 30) dX11_keep_208 (by decide) ?_
                refine z_iload_n dX11_keep_210 rfl rfl ?_
                refine z_imul dX11_keep_211 (pk_mul 30 t) ?_
                refine z_iload_n dX11_keep_212 rfl rfl ?_
                refine z_iadd dX11_keep_213 (nI_add _ _) ?_
                refine z_aload_n dX11_keep_214 rfl rfl ?_
                refine z_getR dX11_keep_215 fl_X11_44 rfl rfl rfl ?_
                refine z_iload_n dX11_keep_218 rfl rfl ?_
                refine z_zald dX11_keep_219 rfl rfl (by omega) (show _ = σ 102 v by simp [z_up]) ?_
                refine z_zast dX11_keep_220 rfl rfl (by omega) (hI.2.2.1 v hlt) ?_
                refine z_aload_n dX11_keep_221 rfl rfl ?_
                refine z_getR dX11_keep_222 fl_X11_63 rfl rfl rfl ?_
                refine z_bipush (v := nI 30) dX11_keep_225 (by decide) ?_
                refine z_iload_n dX11_keep_227 rfl rfl ?_
                refine z_imul dX11_keep_228 (pk_mul 30 t) ?_
                refine z_iload_n dX11_keep_229 rfl rfl ?_
                refine z_iadd dX11_keep_230 (nI_add _ _) ?_
                refine z_aload_n dX11_keep_231 rfl rfl ?_
                refine z_getR dX11_keep_232 fl_X11_69 rfl rfl rfl ?_
                refine z_iload_n dX11_keep_235 rfl rfl ?_
                refine z_iald dX11_keep_236 rfl rfl (by omega) (show _ = σ 109 t + kBI σ v by simp [z_up]) ?_
                refine z_aload_n dX11_keep_237 rfl rfl ?_
                refine z_getR dX11_keep_238 fl_X11_72 rfl rfl rfl ?_
                refine z_iload_n dX11_keep_241 rfl rfl ?_
                refine z_iald dX11_keep_242 rfl rfl (by omega) (show _ = σ 110 t + kGI σ v by simp [z_up]) ?_
                refine z_iadd dX11_keep_243 rfl ?_
                refine z_aload_n dX11_keep_244 rfl rfl ?_
                refine z_getR dX11_keep_245 fl_X11_75 rfl rfl rfl ?_
                refine z_iload_n dX11_keep_248 rfl rfl ?_
                refine z_iald dX11_keep_249 rfl rfl (by omega) (show _ = σ 111 t + kOI σ v by simp [z_up]) ?_
                refine z_iadd dX11_keep_250 rfl ?_
                refine z_iast dX11_keep_251 rfl rfl (by omega) ?_
                refine z_iinc dX11_keep_252 rfl (nI_i _) (by decide) ?_
                show z_V _ _ _ _ _ _ _ _ _ [_, _, _, _, _] _ _
                refine z_goto (tgt := 30) dX11_keep_255 (by decide) ?_
                exact ih m (by omega) (v + 1) _ _ _ (kpI_eq (fun b hb => kpT_ne hb) hI) (by omega)
              · have hO : kOI σ v = 1 := b2i_t c177
                refine z_iconst (v := 1) dX11_keep_180 (by decide) ?_
                refine z_goto (tgt := 185) dX11_keep_181 (by decide) ?_
                refine z_iadd dX11_keep_185 (show _ = σ 111 t + kOI σ v by rw [hO]) ?_
                refine z_iast dX11_keep_186 rfl rfl (by omega) ?_
                refine z_aload_n dX11_keep_187 rfl rfl ?_
                refine z_getR dX11_keep_188 fl_X11_57 rfl rfl rfl ?_
                refine z_bipush (v := nI 30) dX11_keep_191 (by decide) ?_
                refine z_iload_n dX11_keep_193 rfl rfl ?_
                refine z_imul dX11_keep_194 (pk_mul 30 t) ?_
                refine z_iload_n dX11_keep_195 rfl rfl ?_
                refine z_iadd dX11_keep_196 (nI_add _ _) ?_
                refine z_aload_n dX11_keep_197 rfl rfl ?_
                refine z_getR dX11_keep_198 fl_X11_41 rfl rfl rfl ?_
                refine z_iload_n dX11_keep_201 rfl rfl ?_
                refine z_iald dX11_keep_202 rfl rfl (by omega) (show _ = σ 101 v by simp [z_up]) ?_
                refine z_iast dX11_keep_203 rfl rfl (by omega) ?_
                refine z_aload_n dX11_keep_204 rfl rfl ?_
                refine z_getR dX11_keep_205 fl_X11_60 rfl rfl rfl ?_
                refine z_bipush (v := nI 30) dX11_keep_208 (by decide) ?_
                refine z_iload_n dX11_keep_210 rfl rfl ?_
                refine z_imul dX11_keep_211 (pk_mul 30 t) ?_
                refine z_iload_n dX11_keep_212 rfl rfl ?_
                refine z_iadd dX11_keep_213 (nI_add _ _) ?_
                refine z_aload_n dX11_keep_214 rfl rfl ?_
                refine z_getR dX11_keep_215 fl_X11_44 rfl rfl rfl ?_
                refine z_iload_n dX11_keep_218 rfl rfl ?_
                refine z_zald dX11_keep_219 rfl rfl (by omega) (show _ = σ 102 v by simp [z_up]) ?_
                refine z_zast dX11_keep_220 rfl rfl (by omega) (hI.2.2.1 v hlt) ?_
                refine z_aload_n dX11_keep_221 rfl rfl ?_
                refine z_getR dX11_keep_222 fl_X11_63 rfl rfl rfl ?_
                refine z_bipush (v := nI 30) dX11_keep_225 (by decide) ?_
                refine z_iload_n dX11_keep_227 rfl rfl ?_
                refine z_imul dX11_keep_228 (pk_mul 30 t) ?_
                refine z_iload_n dX11_keep_229 rfl rfl ?_
                refine z_iadd dX11_keep_230 (nI_add _ _) ?_
                refine z_aload_n dX11_keep_231 rfl rfl ?_
                refine z_getR dX11_keep_232 fl_X11_69 rfl rfl rfl ?_
                refine z_iload_n dX11_keep_235 rfl rfl ?_
                refine z_iald dX11_keep_236 rfl rfl (by omega) (show _ = σ 109 t + kBI σ v by simp [z_up]) ?_
                refine z_aload_n dX11_keep_237 rfl rfl ?_
                refine z_getR dX11_keep_238 fl_X11_72 rfl rfl rfl ?_
                refine z_iload_n dX11_keep_241 rfl rfl ?_
                refine z_iald dX11_keep_242 rfl rfl (by omega) (show _ = σ 110 t + kGI σ v by simp [z_up]) ?_
                refine z_iadd dX11_keep_243 rfl ?_
                refine z_aload_n dX11_keep_244 rfl rfl ?_
                refine z_getR dX11_keep_245 fl_X11_75 rfl rfl rfl ?_
                refine z_iload_n dX11_keep_248 rfl rfl ?_
                refine z_iald dX11_keep_249 rfl rfl (by omega) (show _ = σ 111 t + kOI σ v by simp [z_up]) ?_
                refine z_iadd dX11_keep_250 rfl ?_
                refine z_iast dX11_keep_251 rfl rfl (by omega) ?_
                refine z_iinc dX11_keep_252 rfl (nI_i _) (by decide) ?_
                show z_V _ _ _ _ _ _ _ _ _ [_, _, _, _, _] _ _
                refine z_goto (tgt := 30) dX11_keep_255 (by decide) ?_
                exact ih m (by omega) (v + 1) _ _ _ (kpI_eq (fun b hb => kpT_ne hb) hI) (by omega)
set_option maxRecDepth 100000 in
set_option maxHeartbeats 4000000 in
theorem sp_keep {d : Nat} {σ : Nat → Nat → Int32} {τ : Nat → Nat → Int64} {t n : Nat} (ht : t < 4) (hI : kpI σ n) : z_MV M_X11_keep d 0 0 [.ref 92, .int (nI t)] (124, z_r0, σ, τ) (none) (124, z_r0, kpF t n 0 (kp0 σ t), τ) := by
  refine z_MV.of pn_X11_keep (Nat.le_of_ble_eq_true rfl) (by simp [Value.category]) rfl ?_
  show z_V _ _ _ _ _ _ _ _ _ [_, _, _, _, _] _ _
  refine z_aload_n dX11_keep_0 rfl rfl ?_
  refine z_getR dX11_keep_1 fl_X11_66 rfl rfl rfl ?_
  refine z_iload_n dX11_keep_4 rfl rfl ?_
  refine z_iconst (v := 0) dX11_keep_5 (by decide) ?_
  refine z_iast dX11_keep_6 rfl rfl (by omega) ?_
  refine z_aload_n dX11_keep_7 rfl rfl ?_
  refine z_getR dX11_keep_8 fl_X11_69 rfl rfl rfl ?_
  refine z_iload_n dX11_keep_11 rfl rfl ?_
  refine z_iconst (v := 0) dX11_keep_12 (by decide) ?_
  refine z_iast dX11_keep_13 rfl rfl (by omega) ?_
  refine z_aload_n dX11_keep_14 rfl rfl ?_
  refine z_getR dX11_keep_15 fl_X11_72 rfl rfl rfl ?_
  refine z_iload_n dX11_keep_18 rfl rfl ?_
  refine z_iconst (v := 0) dX11_keep_19 (by decide) ?_
  refine z_iast dX11_keep_20 rfl rfl (by omega) ?_
  refine z_aload_n dX11_keep_21 rfl rfl ?_
  refine z_getR dX11_keep_22 fl_X11_75 rfl rfl rfl ?_
  refine z_iload_n dX11_keep_25 rfl rfl ?_
  refine z_iconst (v := 0) dX11_keep_26 (by decide) ?_
  refine z_iast dX11_keep_27 rfl rfl (by omega) ?_
  refine z_iconst (v := 0) dX11_keep_28 (by decide) ?_
  refine z_istore_n dX11_keep_29 rfl (by decide) ?_
  show z_V _ _ _ _ _ _ _ _ _ [_, _, _, _, _] _ _
  exact keep_loop ht n 0 _ none none (kpI_eq (σ := σ) (fun b hb => by unfold kp0; rw [z_up_ne _ _ _ (by omega), z_up_ne _ _ _ (by omega), z_up_ne _ _ _ (by omega), z_up_ne _ _ _ (by omega)]) hI) (by omega)
