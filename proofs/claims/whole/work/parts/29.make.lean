/-! PART 29: TraceMaker.follow in one, make -/
def tk (op : Nat) : Nat := ([0, 0, 1, 2, 2, 2, 2, 2, 2, 1, 1, 2, 1, 0, 1, 0] : List Nat).getD op 0
def gv (op : Nat) : Nat := ([1, 1, 0, 1, 1, 1, 1, 1, 1, 2, 0, 2, 0, 0, 0, 0] : List Nat).getD op 0
def flO (σ : Nat → Nat → Int32) (T p : Nat) (y : Int32) (op n e : Nat) : Nat → Nat → Int32 :=
  if op = 0 then pu (shS σ T n 0 (σ 3 p) 0) 20 e (nI (shI σ T n 0 (σ 3 p) 0))
  else if op = 1 then pu σ 20 e (σ 21 (tN (σ 3 p)))
  else if op = 2 then z_up (po σ 20 (e - 1)) 21 (tN (σ 3 p)) (σ 22 (e - 1))
  else if op ≤ 8 then pu (cmb (po (po σ 20 (e - 1)) 20 (e - 2)) T n op (tN (σ 22 (e - 2))) (tN (σ 22 (e - 1)))).2 20 (e - 2) (nI (cmb (po (po σ 20 (e - 1)) 20 (e - 2)) T n op (tN (σ 22 (e - 2))) (tN (σ 22 (e - 1)))).1)
  else if op = 9 then pu (pu (po σ 20 (e - 1)) 20 (e - 1) (σ 22 (e - 1))) 20 e (σ 22 (e - 1))
  else if op = 10 then po σ 20 (e - 1)
  else if op = 11 then pu (pu (po (po σ 20 (e - 1)) 20 (e - 2)) 20 (e - 2) (σ 22 (e - 1))) 20 (e - 1) (σ 22 (e - 2))
  else if op = 12 then cmS (z_up (po σ 20 (e - 1)) 25 (tN (σ 22 (e - 1))) 1) (nI 2) (σ 22 (e - 1))
  else if op = 14 then gdS (po σ 20 (e - 1)) T (tN (σ 22 (e - 1))) y (if y = 0 then σ 3 p else nI (p + 1))
  else σ
def flS (σ : Nat → Nat → Int32) (T p : Nat) (y : Int32) : Nat → Nat → Int32 := flO σ T p y (tN (σ 2 p)) (tN (σ (T + 1) 4)) (tN (σ 20 2))
def flOK (σ : Nat → Nat → Int32) (t p : Nat) (y : Int32) : Prop := p < 40 ∧ (y = 0 ∨ y = 1) ∧ ∃ op n e c g : Nat, σ 2 p = nI op ∧ op ≤ 14 ∧ σ (tr t + 1) 4 = nI n ∧ n < 36 ∧ σ 20 2 = nI e ∧ σ 19 3 = nI c ∧ c < 30 ∧ σ (tr t + 6) 5 = nI g ∧ g < 15 ∧ tk op ≤ e ∧ e ≤ 6 ∧ e - tk op + gv op ≤ 6 ∧ (∀ l, l < 6 → ∃ q, q < 36 ∧ σ 21 l = nI q) ∧ (∀ s, s < e → ∃ q, q < 36 ∧ σ 22 s = nI q) ∧ ((op = 1 ∨ op = 2) → ∃ l, l < 6 ∧ σ 3 p = nI l)
set_option maxHeartbeats 4000000 in
theorem sp_follow {d : Nat} {σ : Nat → Nat → Int32} {τ : Nat → Nat → Int64} {t p : Nat} {y : Int32} (ht : t < 4) (hok : flOK σ t p y) : z_MV M_X8_follow (d + 2) 0 0 [.ref 19, .ref (tr t), .int (nI p), .int y, .ref 1] (124, z_r0, σ, τ) none (124, z_r0, flS σ (tr t) p y, τ) := by
  obtain ⟨hp, hy, op, n, e, c, g, hop, h14, hn, h36, he, hc, hc30, hg, hg15, htk, he6, hgv, hl, hs, hx⟩ := hok
  unfold flS
  rw [hop, hn, he, tN_nI (by omega), tN_nI (by omega), tN_nI (by omega)]
  have bin : 3 ≤ op → op ≤ 8 → ∃ e', e = e' + 2 ∧ ∃ b, b < 36 ∧ σ 22 (e' + 1) = nI b ∧ ∃ a, a < 36 ∧ σ 22 e' = nI a := by
    intro h3 h8
    have h2 : 2 ≤ e := by
      rcases (show op = 3 ∨ op = 4 ∨ op = 5 ∨ op = 6 ∨ op = 7 ∨ op = 8 by omega) with rfl | rfl | rfl | rfl | rfl | rfl <;> exact htk
    obtain ⟨e', rfl⟩ : ∃ e', e = e' + 2 := ⟨e - 2, by omega⟩
    obtain ⟨b, hb, hb2⟩ := hs (e' + 1) (by omega)
    obtain ⟨a, ha, ha2⟩ := hs e' (by omega)
    exact ⟨e', rfl, b, hb, hb2, a, ha, ha2⟩
  have one : tk op = 1 → ∃ e', e = e' + 1 ∧ ∃ b, b < 36 ∧ σ 22 e' = nI b := by
    intro h1
    obtain ⟨e', rfl⟩ : ∃ e', e = e' + 1 := ⟨e - 1, by omega⟩
    obtain ⟨b, hb, hb2⟩ := hs e' (by omega)
    exact ⟨e', rfl, b, hb, hb2⟩
  rcases (show op = 0 ∨ op = 1 ∨ op = 2 ∨ op = 3 ∨ op = 4 ∨ op = 5 ∨ op = 6 ∨ op = 7 ∨ op = 8 ∨ op = 9 ∨ op = 10 ∨ op = 11 ∨ op = 12 ∨ op = 13 ∨ op = 14 by omega) with rfl | rfl | rfl | rfl | rfl | rfl | rfl | rfl | rfl | rfl | rfl | rfl | rfl | rfl | rfl
  · exact sp_fl0 ht hp hop hn h36 he (by have : e - 0 + 1 ≤ 6 := hgv; omega)
  · obtain ⟨l, hl6, hxl⟩ := hx (Or.inl rfl)
    have e1 : flO σ (tr t) p y 1 n e = pu σ 20 e (σ 21 l) := by unfold flO; rw [hxl, tN_nI (by omega)]; rfl
    rw [e1]
    exact sp_fl1 (n := n) ht hp hop he (by have : e - 0 + 1 ≤ 6 := hgv; omega) hxl hl6
  · obtain ⟨l, hl6, hxl⟩ := hx (Or.inr rfl)
    obtain ⟨e', rfl, b, hb, hb2⟩ := one rfl
    have e1 : flO σ (tr t) p y 2 n (e' + 1) = z_up (po σ 20 e') 21 l (σ 22 e') := by unfold flO; rw [hxl, tN_nI (by omega)]; rfl
    rw [e1]
    exact sp_fl2 (n := n) ht hp hop he (by omega) hxl hl6
  · obtain ⟨e', rfl, b, hb, hb2, a, ha, ha2⟩ := bin (by decide) (by decide)
    have e1 : flO σ (tr t) p y 3 n (e' + 2) = pu (cmb (po (po σ 20 (e' + 1)) 20 e') (tr t) n 3 a b).2 20 e' (nI (cmb (po (po σ 20 (e' + 1)) 20 e') (tr t) n 3 a b).1) := by
      unfold flO
      rw [show e' + 2 - 2 = e' from rfl, show e' + 2 - 1 = e' + 1 from rfl, ha2, hb2, tN_nI (show a < 2 ^ 31 by omega), tN_nI (show b < 2 ^ 31 by omega)]
      rfl
    rw [e1]
    exact sp_fl3 ht hp hop hn h36 hc hc30 he (by omega) hb2 hb ha2 ha
  · obtain ⟨e', rfl, b, hb, hb2, a, ha, ha2⟩ := bin (by decide) (by decide)
    have e1 : flO σ (tr t) p y 4 n (e' + 2) = pu (cmb (po (po σ 20 (e' + 1)) 20 e') (tr t) n 4 a b).2 20 e' (nI (cmb (po (po σ 20 (e' + 1)) 20 e') (tr t) n 4 a b).1) := by
      unfold flO
      rw [show e' + 2 - 2 = e' from rfl, show e' + 2 - 1 = e' + 1 from rfl, ha2, hb2, tN_nI (show a < 2 ^ 31 by omega), tN_nI (show b < 2 ^ 31 by omega)]
      rfl
    rw [e1]
    exact sp_fl4 ht hp hop hn h36 hc hc30 he (by omega) hb2 hb ha2 ha
  · obtain ⟨e', rfl, b, hb, hb2, a, ha, ha2⟩ := bin (by decide) (by decide)
    have e1 : flO σ (tr t) p y 5 n (e' + 2) = pu (cmb (po (po σ 20 (e' + 1)) 20 e') (tr t) n 5 a b).2 20 e' (nI (cmb (po (po σ 20 (e' + 1)) 20 e') (tr t) n 5 a b).1) := by
      unfold flO
      rw [show e' + 2 - 2 = e' from rfl, show e' + 2 - 1 = e' + 1 from rfl, ha2, hb2, tN_nI (show a < 2 ^ 31 by omega), tN_nI (show b < 2 ^ 31 by omega)]
      rfl
    rw [e1]
    exact sp_fl5 ht hp hop hn h36 hc hc30 he (by omega) hb2 hb ha2 ha
  · obtain ⟨e', rfl, b, hb, hb2, a, ha, ha2⟩ := bin (by decide) (by decide)
    have e1 : flO σ (tr t) p y 6 n (e' + 2) = pu (cmb (po (po σ 20 (e' + 1)) 20 e') (tr t) n 6 a b).2 20 e' (nI (cmb (po (po σ 20 (e' + 1)) 20 e') (tr t) n 6 a b).1) := by
      unfold flO
      rw [show e' + 2 - 2 = e' from rfl, show e' + 2 - 1 = e' + 1 from rfl, ha2, hb2, tN_nI (show a < 2 ^ 31 by omega), tN_nI (show b < 2 ^ 31 by omega)]
      rfl
    rw [e1]
    exact sp_fl6 ht hp hop hn h36 hc hc30 he (by omega) hb2 hb ha2 ha
  · obtain ⟨e', rfl, b, hb, hb2, a, ha, ha2⟩ := bin (by decide) (by decide)
    have e1 : flO σ (tr t) p y 7 n (e' + 2) = pu (cmb (po (po σ 20 (e' + 1)) 20 e') (tr t) n 7 a b).2 20 e' (nI (cmb (po (po σ 20 (e' + 1)) 20 e') (tr t) n 7 a b).1) := by
      unfold flO
      rw [show e' + 2 - 2 = e' from rfl, show e' + 2 - 1 = e' + 1 from rfl, ha2, hb2, tN_nI (show a < 2 ^ 31 by omega), tN_nI (show b < 2 ^ 31 by omega)]
      rfl
    rw [e1]
    exact sp_fl7 ht hp hop hn h36 hc hc30 he (by omega) hb2 hb ha2 ha
  · obtain ⟨e', rfl, b, hb, hb2, a, ha, ha2⟩ := bin (by decide) (by decide)
    have e1 : flO σ (tr t) p y 8 n (e' + 2) = pu (cmb (po (po σ 20 (e' + 1)) 20 e') (tr t) n 8 a b).2 20 e' (nI (cmb (po (po σ 20 (e' + 1)) 20 e') (tr t) n 8 a b).1) := by
      unfold flO
      rw [show e' + 2 - 2 = e' from rfl, show e' + 2 - 1 = e' + 1 from rfl, ha2, hb2, tN_nI (show a < 2 ^ 31 by omega), tN_nI (show b < 2 ^ 31 by omega)]
      rfl
    rw [e1]
    exact sp_fl8 ht hp hop hn h36 hc hc30 he (by omega) hb2 hb ha2 ha
  · obtain ⟨e', rfl, b, hb, hb2⟩ := one rfl
    exact sp_fl9 (n := n) ht hp hop he (by have : e' + 1 - 1 + 2 ≤ 6 := hgv; omega)
  · obtain ⟨e', rfl, b, hb, hb2⟩ := one rfl
    exact sp_fl10 (n := n) ht hp hop he (by omega)
  · have h2 : 2 ≤ e := htk
    obtain ⟨e', rfl⟩ : ∃ e', e = e' + 2 := ⟨e - 2, by omega⟩
    have e1 : flO σ (tr t) p y 11 n (e' + 2) = pu (pu (po (po σ 20 (e' + 1)) 20 e') 20 e' (σ 22 (e' + 1))) 20 (e' + 1) (po σ 20 (e' + 1) 22 e') := by
      rw [po_ne (by decide)]
      rfl
    rw [e1]
    exact sp_fl11 (n := n) ht hp hop he (by omega)
  · obtain ⟨e', rfl, b, hb, hb2⟩ := one rfl
    have e1 : flO σ (tr t) p y 12 n (e' + 1) = cmS (z_up (po σ 20 e') 25 b 1) (nI 2) (nI b) := by
      unfold flO
      rw [show e' + 1 - 1 = e' from rfl, hb2, tN_nI (show b < 2 ^ 31 by omega)]
      rfl
    rw [e1]
    exact sp_fl12 (n := n) ht hp hop hc hc30 he (by omega) hb2 hb
  · exact sp_fl13 (n := n) (e := e) ht hp hop
  · obtain ⟨e', rfl, b, hb, hb2⟩ := one rfl
    have e1 : flO σ (tr t) p y 14 n (e' + 1) = gdS (po σ 20 e') (tr t) b y (if y = 0 then σ 3 p else nI (p + 1)) := by
      unfold flO
      rw [show e' + 1 - 1 = e' from rfl, hb2, tN_nI (show b < 2 ^ 31 by omega)]
      rfl
    rw [e1]
    exact sp_fl14 (n := n) ht hp hop hy hg hg15 hc hc30 he (by omega) hb2 hb hl (fun s h => hs s (by omega))
def mkF (σ : Nat → Nat → Int32) (T : Nat) : Nat → Nat → Nat → Int32
  | 0 => σ
  | r + 1 => flS (mkF σ T r) T (tN (σ 17 r)) (σ 18 r)
theorem gdS_lo {σ : Nat → Nat → Int32} {t v b : Nat} {y w : Int32} (h : b < 28 ∧ b ≠ 19 ∧ b ≠ 23 ∧ b ≠ 24 ∧ b ≠ 25) : gdS σ (tr t) v y w b = σ b := by
  unfold gdS
  split
  · rfl
  · split
    · rfl
    · unfold gdN
      rw [mkN_ne _ _ _ h.2.2.2.2, mkN_ne _ _ _ h.2.2.2.2]
      unfold gd3
      rw [z_up_ne _ _ _ h.2.2.2.2, cmS_ne ⟨h.2.1, h.2.2.1, h.2.2.2.1⟩, putG_lo h.1]
theorem cmb_lo {σ : Nat → Nat → Int32} {t n op a b c : Nat} (h : c < 28 ∧ c ≠ 19 ∧ c ≠ 23 ∧ c ≠ 24) : (cmb σ (tr t) n op a b).2 c = σ c := by
  unfold cmb
  split
  · exact shS_lo h.1
  · show (if _ then σ else _) c = _
    split
    · rfl
    · rw [cmS_ne h.2]
      unfold shr
      rw [z_up_ne _ _ _ (tr_ne h.1 1), z_up_ne _ _ _ (tr_ne h.1 5), z_up_ne _ _ _ (tr_ne h.1 4), z_up_ne _ _ _ (tr_ne h.1 3), z_up_ne _ _ _ (tr_ne h.1 2)]
theorem pu_ne {σ : Nat → Nat → Int32} {f e b : Nat} {x : Int32} (h : b ≠ f ∧ b ≠ f + 2) : pu σ f e x b = σ b := by
  unfold pu
  rw [z_up_ne _ _ _ h.1, z_up_ne _ _ _ h.2]
theorem flS_lo {σ : Nat → Nat → Int32} {t p b : Nat} {y : Int32} (h : b < 19) : flS σ (tr t) p y b = σ b := by
  unfold flS flO
  have e1 : ∀ {σ : Nat → Nat → Int32} {e : Nat} {x : Int32}, pu σ 20 e x b = σ b := fun {σ e x} => pu_ne (by omega)
  have e2 : ∀ {σ : Nat → Nat → Int32} {e : Nat}, po σ 20 e b = σ b := fun {σ e} => po_ne (by omega)
  split
  · rw [e1, shS_lo (by omega)]
  · split
    · rw [e1]
    · split
      · rw [z_up_ne _ _ _ (by omega), e2]
      · split
        · rw [e1, cmb_lo (by omega), e2, e2]
        · split
          · rw [e1, e1, e2]
          · split
            · rw [e2]
            · split
              · rw [e1, e1, e2, e2]
              · split
                · rw [cmS_ne (by omega), z_up_ne _ _ _ (by omega), e2]
                · split
                  · rw [gdS_lo (by omega), e2]
                  · rfl
theorem mkF_lo {σ : Nat → Nat → Int32} {t r b : Nat} (h : b < 19) : mkF σ (tr t) r b = σ b := by
  induction r with
  | zero => rfl
  | succ r ih => simp only [mkF]; rw [flS_lo h, ih]
def rsA (σ : Nat → Nat → Int32) (T : Nat) (x : Int32) : Nat → Nat → Int32 := z_up (z_up (z_up (z_up (z_up (rsV σ T 6) (T + 6) 5 0) T 3 x) T 4 0) T 9 0) T 5 0
def nvS (σ : Nat → Nat → Int32) (T : Nat) : Nat → Nat → Nat → Int32
  | 0 => σ
  | i + 1 => z_up (z_up (nvS σ T i) (T + 12) i (σ 21 i)) 25 (tN (σ 21 i)) 1
theorem nvS_ne {σ : Nat → Nat → Int32} {T i b : Nat} (h : b ≠ T + 12 ∧ b ≠ 25) : nvS σ T i b = σ b := by
  induction i with
  | zero => rfl
  | succ i ih => simp only [nvS]; rw [z_up_ne _ _ _ h.2, z_up_ne _ _ _ h.1, ih]
theorem mpS_ne {T k b : Nat} (h : b ≠ 25) : ∀ (σ : Nat → Nat → Int32), mpS T k σ b = σ b := by
  induction k with
  | zero => intro σ; rfl
  | succ k ih => intro σ; simp only [mpS]; rw [ih, mpT_ne _ _ _ h]
/-- what a recording leaves to the maker's last part -/
def mkOK (σ : Nat → Nat → Int32) (t n c : Nat) : Prop := σ (tr t + 1) 4 = nI n ∧ n ≤ 36 ∧ okP σ (tr t) n ∧ (∀ v, v < n → σ (tr t + 2) v = 1 → v < 6) ∧ (∀ l, l < 6 → ∃ q, q < 36 ∧ σ 21 l = nI q) ∧ σ 19 3 = nI c ∧ c ≤ 30 ∧ (∀ i, i < c → ∃ q, q < 36 ∧ σ 24 i = nI q) ∧ σ (tr t) 9 = nI 0 ∧ σ (tr t) 4 = nI 0
/-- the maker's last part -/
def mkE (σ : Nat → Nat → Int32) (t n c : Nat) : Nat → Nat → Int32 := soS (tr t) c 0 (mcS (mpS (tr t) n (nvS σ (tr t) 6)) (tr t) n)
def mk0 (σ : Nat → Nat → Int32) (t : Nat) : Nat → Nat → Int32 := fg4 (rsA σ (tr t) (σ 16 2)) 36
theorem rsV_lo {σ : Nat → Nat → Int32} {t i b : Nat} (h : b < 28) : rsV σ (tr t) i b = σ b := by
  induction i with
  | zero => simp only [rsV]; rw [z_up_ne _ _ _ (tr_ne h 1)]
  | succ i ih =>
    simp only [rsV]
    unfold shr
    rw [z_up_ne _ _ _ (tr_ne h 1), z_up_ne _ _ _ (tr_ne h 5), z_up_ne _ _ _ (tr_ne h 4), z_up_ne _ _ _ (tr_ne h 3), z_up_ne _ _ _ (tr_ne h 2), ih]
theorem rsA_lo {σ : Nat → Nat → Int32} {t b : Nat} {x : Int32} (h : b < 28) : rsA σ (tr t) x b = σ b := by
  unfold rsA
  rw [z_up_ne _ _ _ (tr_ne0 h), z_up_ne _ _ _ (tr_ne0 h), z_up_ne _ _ _ (tr_ne0 h), z_up_ne _ _ _ (tr_ne0 h), z_up_ne _ _ _ (tr_ne h 6), rsV_lo h]
theorem fg4_lo {σ : Nat → Nat → Int32} {i b : Nat} (h : b ≠ 19 ∧ b ≠ 20 ∧ b ≠ 21 ∧ b ≠ 25) : fg4 σ i b = σ b := by
  unfold fg4
  rw [rowF_ne _ _ _ h.2.2.2]
  unfold fg3
  rw [z_up_ne _ _ _ h.1]
  unfold fg2
  rw [rowF_ne _ _ _ h.2.2.1]
  unfold fg1 fillR z_row
  rw [z_up_ne _ _ _ h.2.1, z_up_ne _ _ _ h.2.1, if_neg h.2.2.1]
theorem mk0_lo {σ : Nat → Nat → Int32} {t b : Nat} (h : b < 19) : mk0 σ t b = σ b := by
  unfold mk0
  rw [fg4_lo (by omega), rsA_lo (by omega)]
theorem mkOK_sI {σ : Nat → Nat → Int32} {t n c : Nat} (h : mkOK σ t n c) : sI (mcS (mpS (tr t) n (nvS σ (tr t) 6)) (tr t) n) t c 0 := by
  obtain ⟨h1, h2, h3, h4, h5, h6, h7, h8, h9, h10⟩ := h
  have e1 : ∀ b, b ≠ 25 → b ≠ 26 → b ≠ tr t + 12 → mcS (mpS (tr t) n (nvS σ (tr t) 6)) (tr t) n b = σ b := fun b a1 a2 a3 => by
    rw [mcS_ne _ _ _ a2, mpS_ne a1, nvS_ne ⟨a3, a1⟩]
  refine ⟨by rw [e1 19 (by decide) (by decide) (tr_ne (by decide) 12)]; exact h6, h7, by rw [e1 24 (by decide) (by decide) (tr_ne (by decide) 12)]; exact h8, ⟨0, Nat.le_refl 0, ?_⟩, ⟨0, Nat.le_refl 0, ?_⟩⟩
  · rw [e1 (tr t) (tr_ne0' (by decide)) (tr_ne0' (by decide)) (by omega)]; exact h9
  · rw [e1 (tr t) (tr_ne0' (by decide)) (tr_ne0' (by decide)) (by omega)]; exact h10
set_option maxRecDepth 100000 in
set_option maxHeartbeats 4000000 in
theorem make_loop2 {d : Nat} {σ : Nat → Nat → Int32} {τ : Nat → Nat → Int64} {t n c : Nat} {w5 : Option Value} (ht : t < 4) (hk0 : mkOK σ t n c) : ∀ (m i : Nat), i ≤ 6 → 6 - i < m → z_V M_X8_make (d + 3) 0 0 0 0 none (124, z_r0, mkE σ t n c, τ) 57 [some (.ref 19), some (.ref (tr t)), some (.ref 1), some (.ref 16), some (.int (nI i)), w5] [] (124, z_r0, nvS σ (tr t) i, τ) := by
  have hk := tr_k ht
  have hr := tr_r ht
  intro m
  induction m with
  | zero => intro i _ h; omega
  | succ m ih =>
    intro i hv1 hv2
    refine z_iload dX8_make_57 rfl ?_
    refine z_bipush (v := nI 6) dX8_make_59 (by decide) ?_
    refine z_icmp_ge (tgt := 103) dX8_make_61 (by decide) (fun c61 => ?_) (fun c61 => ?_)
    · have e0 : 6 = i := by
        rcases Nat.lt_or_ge i 6 with q | q
        · exact absurd c61 (nI_ge q (by omega))
        · omega
      subst e0
      refine z_aload_n dX8_make_103 rfl rfl ?_
      refine z_aload_n dX8_make_104 rfl rfl ?_
      refine z_getR dX8_make_105 fl_X8_66 rfl hk.1 hr.2.1 ?_
      refine z_cV0 dX8_make_108 ml_X8_70 (sp_markParts ht (show _ = nI n by rw [nvS_ne ⟨by omega, tr_ne' (by decide) 1⟩]; exact hk0.1) hk0.2.1 (by unfold okP; rw [nvS_ne ⟨by omega, tr_ne' (by decide) 2⟩, nvS_ne ⟨by omega, tr_ne' (by decide) 3⟩, nvS_ne ⟨by omega, tr_ne' (by decide) 4⟩]; exact hk0.2.2.1)) rfl ⟨by decide, rfl⟩ rfl rfl (Nat.le_of_ble_eq_true rfl) ?_
      refine z_aload_n dX8_make_111 rfl rfl ?_
      refine z_aload_n dX8_make_112 rfl rfl ?_
      refine z_cV0 dX8_make_113 ml_X8_74 (sp_markConstant ht (show _ = nI n by rw [mpS_ne (tr_ne' (by decide) 1), nvS_ne ⟨by omega, tr_ne' (by decide) 1⟩]; exact hk0.1) hk0.2.1 (by unfold okP; rw [mpS_ne (tr_ne' (by decide) 2), mpS_ne (tr_ne' (by decide) 3), mpS_ne (tr_ne' (by decide) 4), nvS_ne ⟨by omega, tr_ne' (by decide) 2⟩, nvS_ne ⟨by omega, tr_ne' (by decide) 3⟩, nvS_ne ⟨by omega, tr_ne' (by decide) 4⟩]; exact hk0.2.2.1) (by rw [mpS_ne (tr_ne' (by decide) 2), nvS_ne ⟨by omega, tr_ne' (by decide) 2⟩]; exact hk0.2.2.2.1)) rfl ⟨by decide, rfl⟩ rfl rfl (Nat.le_of_ble_eq_true rfl) ?_
      refine z_aload_n dX8_make_116 rfl rfl ?_
      refine z_aload_n dX8_make_117 rfl rfl ?_
      refine z_cV0 dX8_make_118 ml_X8_78 (sp_sortOut ht (mkOK_sI hk0)) rfl ⟨by decide, rfl⟩ rfl rfl (Nat.le_of_ble_eq_true rfl) ?_
      exact z_vret dX8_make_121 rfl rfl rfl
    · have hlt : i < 6 := by
        rcases Nat.lt_or_ge i 6 with q | q
        · exact q
        · exact absurd (nI_le q (by omega)) c61
      refine z_aload_n dX8_make_64 rfl rfl ?_
      refine z_getR dX8_make_65 fl_X8_60 rfl hk.1 hr.2.2.2.1 ?_
      refine z_iload dX8_make_68 rfl ?_
      refine z_aload_n dX8_make_70 rfl rfl ?_
      refine z_getR dX8_make_71 fl_X8_12 rfl rfl rfl ?_
      refine z_getR dX8_make_74 fl_X8_63 rfl rfl rfl ?_
      refine z_iload dX8_make_77 rfl ?_
      obtain ⟨q, hq, hpq⟩ := hk0.2.2.2.2.1 i hlt
      refine z_iald dX8_make_79 rfl rfl (by omega) (show _ = nI q by rw [nvS_ne ⟨tr_ne (by decide) 12, by decide⟩]; exact hpq) ?_
      refine z_iast dX8_make_80 hk.2.2.2.2.2.2.2.2.2.2.2.2.1 rfl (by omega) ?_
      refine z_aload_n dX8_make_81 rfl rfl ?_
      refine z_getR dX8_make_82 fl_X8_25 rfl rfl rfl ?_
      refine z_aload_n dX8_make_85 rfl rfl ?_
      refine z_getR dX8_make_86 fl_X8_12 rfl rfl rfl ?_
      refine z_getR dX8_make_89 fl_X8_63 rfl rfl rfl ?_
      refine z_iload dX8_make_92 rfl ?_
      refine z_iald dX8_make_94 rfl rfl (by omega) (show _ = nI q by rw [z_up_ne _ _ _ (tr_ne (by decide) 12), nvS_ne ⟨tr_ne (by decide) 12, by decide⟩]; exact hpq) ?_
      refine z_iconst (v := 1) dX8_make_95 (by decide) ?_
      refine z_zast dX8_make_96 rfl rfl (by omega) (by first | exact Or.inl rfl | exact Or.inr rfl) ?_
      refine z_iinc dX8_make_97 rfl (nI_i _) (by decide) ?_
      show z_V _ _ _ _ _ _ _ _ _ [_, _, _, _, _, _] _ _
      refine z_goto (tgt := 57) dX8_make_100 (by decide) ?_
      refine z_Vx (σ' := nvS σ (tr t) (i + 1)) ?_ (ih (i + 1) (by omega) (by omega))
      show z_up (z_up (nvS σ (tr t) i) (tr t + 12) i (σ 21 i)) 25 (tN (σ 21 i)) 1 = _
      rw [hpq, tN_nI (by omega)]
set_option maxRecDepth 100000 in
set_option maxHeartbeats 4000000 in
theorem make_loop1 {d : Nat} {σ : Nat → Nat → Int32} {τ : Nat → Nat → Int64} {t n c len : Nat} (ht : t < 4) (hln : σ 16 3 = nI len) (hl30 : len ≤ 30) (hpt : ∀ r, r < len → ∃ q, q < 40 ∧ σ 17 r = nI q) (hfl : ∀ r, r < len → flOK (mkF σ (tr t) r) t (tN (σ 17 r)) (σ 18 r)) (hk0 : mkOK (mkF σ (tr t) len) t n c) : ∀ (m i : Nat) (w5 : Option Value), i ≤ len → len - i < m → z_V M_X8_make (d + 3) 0 0 0 0 none (124, z_r0, mkE (mkF σ (tr t) len) t n c, τ) 15 [some (.ref 19), some (.ref (tr t)), some (.ref 1), some (.ref 16), some (.int (nI i)), w5] [] (124, z_r0, mkF σ (tr t) i, τ) := by
  have hk := tr_k ht
  have hr := tr_r ht
  intro m
  induction m with
  | zero => intro i w5 _ h; omega
  | succ m ih =>
    intro i w5 hv1 hv2
    refine z_iload dX8_make_15 rfl ?_
    refine z_aload_n dX8_make_17 rfl rfl ?_
    refine z_getI dX8_make_18 fl_X8_47 rfl rfl (show _ = nI len by rw [mkF_lo (by decide)]; exact hln) ?_
    refine z_icmp_ge (tgt := 54) dX8_make_21 (by decide) (fun c21 => ?_) (fun c21 => ?_)
    · have e0 : len = i := by
        rcases Nat.lt_or_ge i len with q | q
        · exact absurd c21 (nI_ge q (by omega))
        · omega
      subst e0
      refine z_iconst (v := 0) dX8_make_54 (by decide) ?_
      refine z_istore dX8_make_55 (by decide) ?_
      show z_V _ _ _ _ _ _ _ _ _ [_, _, _, _, _, _] _ _
      exact make_loop2 ht hk0 7 0 (by omega) (by omega)
    · have hlt : i < len := by
        rcases Nat.lt_or_ge i len with q | q
        · exact q
        · exact absurd (nI_le q (by omega)) c21
      refine z_aload_n dX8_make_24 rfl rfl ?_
      refine z_getR dX8_make_25 fl_X8_50 rfl rfl rfl ?_
      refine z_iload dX8_make_28 rfl ?_
      obtain ⟨q, hq, hpq⟩ := hpt i hlt
      refine z_iald dX8_make_30 rfl rfl (by omega) (show _ = nI q by rw [mkF_lo (by decide)]; exact hpq) ?_
      refine z_istore dX8_make_31 (by decide) ?_
      show z_V _ _ _ _ _ _ _ _ _ [_, _, _, _, _, _] _ _
      refine z_aload_n dX8_make_33 rfl rfl ?_
      refine z_aload_n dX8_make_34 rfl rfl ?_
      refine z_iload dX8_make_35 rfl ?_
      refine z_aload_n dX8_make_37 rfl rfl ?_
      refine z_getR dX8_make_38 fl_X8_53 rfl rfl rfl ?_
      refine z_iload dX8_make_41 rfl ?_
      refine z_zald dX8_make_43 rfl rfl (by omega) (show _ = σ 18 i by rw [mkF_lo (by decide)]) ?_
      refine z_aload_n dX8_make_44 rfl rfl ?_
      have hok := hfl i hlt
      rw [hpq, tN_nI (by omega)] at hok
      refine z_cV0 dX8_make_45 ml_X8_56 (sp_follow ht hok) rfl ⟨by decide, rfl⟩ rfl rfl (Nat.le_of_ble_eq_true rfl) ?_
      refine z_iinc dX8_make_48 rfl (nI_i _) (by decide) ?_
      show z_V _ _ _ _ _ _ _ _ _ [_, _, _, _, _, _] _ _
      refine z_goto (tgt := 15) dX8_make_51 (by decide) ?_
      refine z_Vx (σ' := mkF σ (tr t) (i + 1)) ?_ (ih (i + 1) (some (.int (nI q))) (by omega) (by omega))
      show flS (mkF σ (tr t) i) (tr t) (tN (σ 17 i)) (σ 18 i) = _
      rw [hpq, tN_nI (by omega)]
set_option maxRecDepth 100000 in
set_option maxHeartbeats 4000000 in
theorem sp_make {d : Nat} {σ : Nat → Nat → Int32} {τ : Nat → Nat → Int64} {t n c len : Nat} (ht : t < 4) (hln : σ 16 3 = nI len) (hl30 : len ≤ 30) (hpt : ∀ r, r < len → ∃ q, q < 40 ∧ σ 17 r = nI q) (hfl : ∀ r, r < len → flOK (mkF (mk0 σ t) (tr t) r) t (tN (σ 17 r)) (σ 18 r)) (hk0 : mkOK (mkF (mk0 σ t) (tr t) len) t n c) : z_MV M_X8_make (d + 3) 0 0 [.ref 19, .ref (tr t), .ref 1, .ref 16] (124, z_r0, σ, τ) (none) (124, z_r0, mkE (mkF (mk0 σ t) (tr t) len) t n c, τ) := by
  refine z_MV.of pn_X8_make (Nat.le_of_ble_eq_true rfl) (by simp [Value.category]) rfl ?_
  show z_V _ _ _ _ _ _ _ _ _ [_, _, _, _, _, _] _ _
  have hk := tr_k ht
  have hr := tr_r ht
  refine z_aload_n dX8_make_0 rfl rfl ?_
  refine z_aload_n dX8_make_1 rfl rfl ?_
  refine z_getI dX8_make_2 fl_X8_32 rfl rfl rfl ?_
  refine z_cV0 dX8_make_5 ml_X8_38 (sp_resetAt ht) hk.1 ⟨by decide, rfl⟩ rfl rfl (Nat.le_of_ble_eq_true rfl) ?_
  refine z_aload_n dX8_make_8 rfl rfl ?_
  refine z_cV0 dX8_make_9 ml_X8_44 (sp_forgetLast) rfl ⟨by decide, rfl⟩ rfl rfl (Nat.le_of_ble_eq_true rfl) ?_
  refine z_iconst (v := 0) dX8_make_12 (by decide) ?_
  refine z_istore dX8_make_13 (by decide) ?_
  show z_V _ _ _ _ _ _ _ _ _ [_, _, _, _, _, _] _ _
  exact make_loop1 (σ := mk0 σ t) ht (by rw [mk0_lo (by decide)]; exact hln) hl30 (by rw [mk0_lo (by decide)]; exact hpt) (by rw [mk0_lo (by decide), mk0_lo (by decide)]; exact hfl) hk0 (len + 1) 0 none (Nat.zero_le _) (by omega)
