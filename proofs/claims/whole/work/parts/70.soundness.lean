/-! PART 70: both soundness tests say the same -/
def scs (op jm : Nat → Nat) (a b : Nat) : Prop := (op a ≠ 13 ∧ op a ≠ 15 ∧ b = a + 1) ∨ ((op a = 13 ∨ op a = 14) ∧ b = jm a)
def okD (op : Nat → Nat) (a q : Nat) : Prop := tk (op a) ≤ q ∧ q - tk (op a) + gv (op a) ≤ 6
def nxD (op : Nat → Nat) (a q : Nat) : Nat := q - tk (op a) + gv (op a)
def rcN (n : Nat) (op jm : Nat → Nat) : Nat → Nat → Nat → Prop
  | 0, a, q => a = 0 ∧ q = 0
  | k + 1, a, q => ∃ a' q', rcN n op jm k a' q' ∧ a' < n ∧ okD op a' q' ∧ scs op jm a' a ∧ q = nxD op a' q'
def Rch (n : Nat) (op jm : Nat → Nat) (a q : Nat) : Prop := ∃ k, rcN n op jm k a q
def BadC (n : Nat) (op jm : Nat → Nat) : Prop := ∃ a q, Rch n op jm a q ∧ (n ≤ a ∨ ¬ okD op a q ∨ ∃ q', Rch n op jm a q' ∧ q' ≠ q)
theorem Rch.z {n : Nat} {op jm : Nat → Nat} : Rch n op jm 0 0 := ⟨0, rfl, rfl⟩
theorem Rch.s {n a b q : Nat} {op jm : Nat → Nat} (h : Rch n op jm a q) (ha : a < n) (ho : okD op a q) (hs : scs op jm a b) : Rch n op jm b (nxD op a q) := by
  obtain ⟨k, h⟩ := h
  exact ⟨k + 1, a, q, h, ha, ho, hs, rfl⟩
/-- the marks m are closed: each marked place is well, and its successors are marked -/
def clsd (n : Nat) (op jm : Nat → Nat) (m : Nat → Int32) : Prop := ∀ a q, a < n → q ≤ 6 → m a = nI q → okD op a q ∧ ∀ b, scs op jm a b → b < n ∧ m b = nI (nxD op a q)
theorem clsd.all {n : Nat} {op jm : Nat → Nat} {m : Nat → Int32} (h : clsd n op jm m) (h0 : 0 < n) (hm : m 0 = nI 0) : ∀ (k a q : Nat), rcN n op jm k a q → a < n ∧ q ≤ 6 ∧ m a = nI q := by
  intro k
  induction k with
  | zero =>
    rintro a q ⟨rfl, rfl⟩
    exact ⟨h0, by omega, hm⟩
  | succ k ih =>
    rintro a q ⟨a', q', hr, ha', ho, hs, rfl⟩
    obtain ⟨g1, g2, g3⟩ := ih a' q' hr
    have := (h a' q' g1 g2 g3).2 a hs
    exact ⟨this.1, ho.2, this.2⟩
theorem clsd.good {n : Nat} {op jm : Nat → Nat} {m : Nat → Int32} (h : clsd n op jm m) (h0 : 0 < n) (hm : m 0 = nI 0) : ¬ BadC n op jm := by
  rintro ⟨a, q, ⟨k, hr⟩, hb⟩
  obtain ⟨g1, g2, g3⟩ := h.all h0 hm k a q hr
  rcases hb with hb | hb | ⟨q', ⟨k', hr'⟩, hne⟩
  · omega
  · exact hb (h a q g1 g2 g3).1
  · obtain ⟨_, f2, f3⟩ := h.all h0 hm k' a q' hr'
    exact hne ((nI_eq (by omega) (by omega)).mp (f3.symm.trans g3))
theorem upE {f : Nat → Int32} {k j : Nat} {v : Int32} : va_up f k v j = if j = k then v else f j := rfl
theorem nI_inj {a b : Nat} (h : nI a = nI b) (ha : a < 2 ^ 31) (hb : b < 2 ^ 31) : a = b := (nI_eq ha hb).mp h
theorem Rch.le6 {n a q : Nat} {op jm : Nat → Nat} (h : Rch n op jm a q) : q ≤ 6 := by
  obtain ⟨k, h⟩ := h
  cases k with
  | zero => rw [h.2]; omega
  | succ k =>
    obtain ⟨a', q', _, _, ho, _, rfl⟩ := h
    exact ho.2
/-- the code of the class is op, jm -/
def cdE (σ : Nat → Nat → Int32) (n x y : Nat) (op jm : Nat → Nat) : Prop := ∀ a, a < n → op a < 16 ∧ σ x a = nI (op a) ∧ (op a = 13 ∨ op a = 14 → jm a < 40 ∧ σ y a = nI (jm a))
def SI (σ : Nat → Nat → Int32) (n : Nat) (op jm : Nat → Nat) : Prop := cI σ n ∧ cdE σ n 2 3 op jm ∧ (∀ a, a < n → σ 4 a = -1 ∨ ∃ q, σ 4 a = nI q ∧ Rch n op jm a q) ∧ ∀ a, a < n → ¬ σ 4 a = -1 → ∃ i, i < cnt (σ 4) n ∧ σ 5 i = nI a
/-- marks stay -/
def sMo (σ σ' : Nat → Nat → Int32) (n : Nat) : Prop := (∀ b, b < n → ¬ σ 4 b = -1 → σ' 4 b = σ 4 b) ∧ cnt (σ 4) n ≤ cnt (σ' 4) n ∧ ∀ i, i < cnt (σ 4) n → σ' 5 i = σ 5 i
theorem sMo.rf {σ : Nat → Nat → Int32} {n : Nat} : sMo σ σ n := ⟨fun _ _ _ => rfl, Nat.le_refl _, fun _ _ => rfl⟩
theorem sMo.tr {σ σ' σ'' : Nat → Nat → Int32} {n : Nat} (h : sMo σ σ' n) (h' : sMo σ' σ'' n) : sMo σ σ'' n :=
  ⟨fun b hb q => by rw [h'.1 b hb (by rw [h.1 b hb q]; exact q), h.1 b hb q], Nat.le_trans h.2.1 h'.2.1, fun i hi => by rw [h'.2.2 i (Nat.lt_of_lt_of_le hi h.2.1), h.2.2 i hi]⟩
theorem nI_m1 {n : Nat} (h : n < 2 ^ 31) : ¬ nI n = -1 := nI_nm1 h
theorem rch_ok {σ : Nat → Nat → Int32} {n a q : Nat} {op jm : Nat → Nat} (h : SI σ n op jm) (hr : Rch n op jm a q) : SI (rch σ a (nI q)).2 n op jm ∧ sMo σ (rch σ a (nI q)).2 n ∧ ((rch σ a (nI q)).1 = 0 → BadC n op jm) ∧ (¬ (rch σ a (nI q)).1 = 0 → a < n ∧ (rch σ a (nI q)).2 4 a = nI q) := by
  have hq := hr.le6
  obtain ⟨hc, hd, h1, h2⟩ := h
  obtain ⟨h40, hn, h5⟩ := hc
  have e1 : tN (σ 1 2) = n := by rw [hn]; exact tN_nI (by omega)
  have hcl := cnt_le (σ 4) n
  have e2 : tN (σ 1 5) = cnt (σ 4) n := by rw [h5]; exact tN_nI (by omega)
  unfold rch
  rw [e1, e2]
  by_cases ha : n ≤ a
  · rw [if_pos ha]
    exact ⟨⟨⟨h40, hn, h5⟩, hd, h1, h2⟩, sMo.rf, fun _ => ⟨a, q, hr, Or.inl ha⟩, fun q => absurd rfl q⟩
  · rw [if_neg ha]
    have ha' : a < n := by omega
    by_cases hm : σ 4 a = -1
    · rw [if_pos hm]
      have hcm := cnt_lt ha' hm
      have r4 : z_up (z_up (z_up σ 4 a (nI q)) 5 (cnt (σ 4) n) (nI a)) 1 5 (nI (cnt (σ 4) n + 1)) 4 = va_up (σ 4) a (nI q) := by
        rw [z_up_ne _ _ _ (by omega), z_up_ne _ _ _ (by omega), z_up_row]
      have r5 : z_up (z_up (z_up σ 4 a (nI q)) 5 (cnt (σ 4) n) (nI a)) 1 5 (nI (cnt (σ 4) n + 1)) 5 = va_up (σ 5) (cnt (σ 4) n) (nI a) := by
        rw [z_up_ne _ _ _ (by omega), z_up_row, z_up_ne _ _ _ (by omega)]
      have r2 : z_up (z_up (z_up σ 4 a (nI q)) 5 (cnt (σ 4) n) (nI a)) 1 5 (nI (cnt (σ 4) n + 1)) 2 = σ 2 := by
        rw [z_up_ne _ _ _ (by omega), z_up_ne _ _ _ (by omega), z_up_ne _ _ _ (by omega)]
      have r3 : z_up (z_up (z_up σ 4 a (nI q)) 5 (cnt (σ 4) n) (nI a)) 1 5 (nI (cnt (σ 4) n + 1)) 3 = σ 3 := by
        rw [z_up_ne _ _ _ (by omega), z_up_ne _ _ _ (by omega), z_up_ne _ _ _ (by omega)]
      have hcu : cnt (va_up (σ 4) a (nI q)) n = cnt (σ 4) n + 1 := cnt_up ha' hm (nI_m1 (by omega))
      refine ⟨⟨⟨h40, ?_, ?_⟩, ?_, ?_, ?_⟩, ⟨?_, ?_, ?_⟩, fun q => absurd q (by show ¬ (1 : Int32) = 0; decide), fun _ => ⟨ha', ?_⟩⟩
      all_goals dsimp only
      · rw [z_up_o _ _ (by omega), z_up_ne _ _ _ (by omega), z_up_ne _ _ _ (by omega)]; exact hn
      · rw [r4, z_up_s, hcu]
      · intro b hb
        rw [r2, r3]
        exact hd b hb
      · intro b hb
        rw [r4, upE]
        by_cases hba : b = a
        · rw [if_pos hba, hba]; exact Or.inr ⟨q, rfl, hr⟩
        · rw [if_neg hba]; exact h1 b hb
      · intro b hb
        rw [r4, upE, hcu, r5]
        by_cases hba : b = a
        · intro _
          exact ⟨cnt (σ 4) n, by omega, by rw [upE, if_pos rfl, hba]⟩
        · rw [if_neg hba]
          intro hx
          obtain ⟨i, hi, hi'⟩ := h2 b hb hx
          exact ⟨i, by omega, by rw [upE, if_neg (by omega)]; exact hi'⟩
      · intro b hb hx
        rw [r4, upE, if_neg (fun e => hx (by rw [e]; exact hm))]
      · rw [r4, hcu]; omega
      · intro i hi
        rw [r5, upE, if_neg (by omega)]
      · rw [r4, upE, if_pos rfl]
    · rw [if_neg hm]
      refine ⟨⟨⟨h40, hn, h5⟩, hd, h1, h2⟩, sMo.rf, fun hz => ?_, fun hz => ⟨ha', ?_⟩⟩
      · rcases h1 a ha' with hx | ⟨q', hx, hr'⟩
        · exact absurd hx hm
        · refine ⟨a, q, hr, Or.inr (Or.inr ⟨q', hr', fun e => ?_⟩)⟩
          subst e
          revert hz
          show b2i (σ 4 a = nI q') = 0 → False
          rw [b2i_t hx]
          decide
      · show σ 4 a = nI q
        refine Decidable.byContradiction fun hx => hz ?_
        show b2i (σ 4 a = nI q) = 0
        exact b2i_f hx
theorem cdE.oN {σ : Nat → Nat → Int32} {n x y : Nat} {op jm : Nat → Nat} (h : cdE σ n x y op jm) {a : Nat} (ha : a < n) : tN (σ x a) = op a := by
  rw [(h a ha).2.1]; exact tN_nI (by have := (h a ha).1; omega)
theorem cdE.jN {σ : Nat → Nat → Int32} {n x y : Nat} {op jm : Nat → Nat} (h : cdE σ n x y op jm) {a : Nat} (ha : a < n) (ho : op a = 13 ∨ op a = 14) : tN (σ y a) = jm a := by
  have := (h a ha).2.2 ho
  rw [this.2]; exact tN_nI (by omega)
theorem lw_ok {σ : Nat → Nat → Int32} {n a q : Nat} {op jm : Nat → Nat} (h : SI σ n op jm) (hr : Rch n op jm a q) (ha : a < n) (hm : σ 4 a = nI q) : SI (lw σ a).2 n op jm ∧ sMo σ (lw σ a).2 n ∧ ((lw σ a).1 = 0 → BadC n op jm) ∧ (¬ (lw σ a).1 = 0 → okD op a q ∧ ∀ b, scs op jm a b → b < n ∧ (lw σ a).2 4 b = nI (nxD op a q)) := by
  have hq := hr.le6
  have e1 := h.2.1.oN ha
  have e2 : tN (σ 4 a) = q := by rw [hm]; exact tN_nI (by omega)
  unfold lw
  rw [e1, e2]
  by_cases hb : q < tk (op a) ∨ 6 < q - tk (op a) + gv (op a)
  · rw [if_pos hb]
    refine ⟨h, sMo.rf, fun _ => ⟨a, q, hr, Or.inr (Or.inl fun g => ?_)⟩, fun g => absurd rfl g⟩
    have := g.1; have := g.2; omega
  · rw [if_neg hb]
    have ho : okD op a q := ⟨by omega, by omega⟩
    unfold lwB
    by_cases h13 : op a = 13
    · rw [if_pos h13, h.2.1.jN ha (Or.inl h13)]
      have := rch_ok h (hr.s ha ho (Or.inr ⟨Or.inl h13, rfl⟩))
      refine ⟨this.1, this.2.1, this.2.2.1, fun g => ⟨ho, fun b hs => ?_⟩⟩
      rcases hs with hs | hs
      · exact absurd h13 hs.1
      · rw [hs.2]; exact this.2.2.2 g
    · rw [if_neg h13]
      by_cases h14 : op a = 14
      · rw [if_pos h14, h.2.1.jN ha (Or.inr h14)]
        have f1 := rch_ok h (hr.s ha ho (Or.inr ⟨Or.inr h14, rfl⟩))
        by_cases hz : (rch σ (jm a) (nI (q - tk (op a) + gv (op a)))).1 = 0
        · rw [if_pos hz]
          exact ⟨f1.1, f1.2.1, f1.2.2.1, fun g => absurd hz g⟩
        · rw [if_neg hz]
          have f2 := rch_ok f1.1 (hr.s ha ho (Or.inl ⟨h13, by omega, rfl⟩))
          refine ⟨f2.1, f1.2.1.tr f2.2.1, f2.2.2.1, fun g => ⟨ho, fun b hs => ?_⟩⟩
          rcases hs with hs | hs
          · rw [hs.2.2]; exact f2.2.2.2 g
          · rw [hs.2]
            have := f1.2.2.2 hz
            refine ⟨this.1, ?_⟩
            have k := this.2
            refine (f2.2.1.1 _ this.1 ?_).trans k
            exact fun e => nI_m1 (n := nxD op a q) (by have := ho.2; unfold nxD; omega) (k.symm.trans e)
      · rw [if_neg h14]
        by_cases h15 : op a = 15
        · rw [if_pos h15]
          refine ⟨h, sMo.rf, fun g => absurd g (by show ¬ (1 : Int32) = 0; decide), fun _ => ⟨ho, fun b hs => ?_⟩⟩
          rcases hs with hs | hs
          · exact absurd h15 hs.2.1
          · rcases hs.1 with g | g <;> omega
        · rw [if_neg h15]
          have := rch_ok h (hr.s ha ho (Or.inl ⟨h13, h15, rfl⟩))
          refine ⟨this.1, this.2.1, this.2.2.1, fun g => ⟨ho, fun b hs => ?_⟩⟩
          rcases hs with hs | hs
          · rw [hs.2.2]; exact this.2.2.2 g
          · rcases hs.1 with g | g <;> omega
/-- the first r of the reached places have been looked at -/
def sPr (σ : Nat → Nat → Int32) (n r : Nat) (op jm : Nat → Nat) : Prop := ∀ i, i < r → i < cnt (σ 4) n → ∀ a, a < n → σ 5 i = nI a → ∀ q, σ 4 a = nI q → q ≤ 6 → okD op a q ∧ ∀ b, scs op jm a b → b < n ∧ σ 4 b = nI (nxD op a q)
theorem sndL_ok {n : Nat} {op jm : Nat → Nat} (hx : ∀ a, a < n → op a < 16) : ∀ (m r : Nat) (σ : Nat → Nat → Int32) (s : Int32), SI σ n op jm → gI σ n → 0 < n → σ 4 0 = nI 0 → sPr σ n r op jm → 40 ≤ m + r → ¬ s = 0 → ((sndL m r s σ).1 = 0 ↔ BadC n op jm) := by
  intro m
  induction m with
  | zero =>
    intro r σ s h hg h0 h4 hp hr hs
    have hcl := cnt_le (σ 4) n
    have h40 := h.1.1
    unfold sndL
    refine ⟨fun e => absurd e hs, fun e => absurd e (clsd.good (m := σ 4) ?_ h0 h4)⟩
    intro a q ha hq hm
    obtain ⟨i, hi, hi'⟩ := h.2.2.2 a ha (fun e => nI_m1 (by omega) (hm.symm.trans e))
    exact hp i (by omega) hi a ha hi' q hm hq
  | succ m ih =>
    intro r σ s h hg h0 h4 hp hr hs
    have hcl := cnt_le (σ 4) n
    have h40 := h.1.1
    have e5 : tN (σ 1 5) = cnt (σ 4) n := by rw [h.1.2.2]; exact tN_nI (by omega)
    unfold sndL
    rw [if_neg hs, e5]
    by_cases hc : cnt (σ 4) n ≤ r
    · rw [if_pos hc]
      refine ⟨fun e => absurd e hs, fun e => absurd e (clsd.good (m := σ 4) ?_ h0 h4)⟩
      intro a q ha hq hm
      obtain ⟨i, hi, hi'⟩ := h.2.2.2 a ha (fun e => nI_m1 (by omega) (hm.symm.trans e))
      exact hp i (by omega) hi a ha hi' q hm hq
    · rw [if_neg hc]
      obtain ⟨a, ha, h5, q, hq, hm⟩ := hg.2.1 r (by omega)
      rw [h5, tN_nI (n := a) (by omega)]
      have hra : Rch n op jm a q := by
        rcases h.2.2.1 a ha with g | ⟨q', g, g'⟩
        · exact absurd (hm.symm.trans g) (nI_m1 (by omega))
        · have := g'.le6
          have e : q = q' := nI_inj (hm.symm.trans g) (by omega) (by omega)
          rw [e]; exact g'
      obtain ⟨f1, f2, f3, f4⟩ := lw_ok h hra ha hm
      have hgl := gI_lw (a := a) ⟨q, hq, hm⟩ ⟨op a, (h.2.1 a ha).1, (h.2.1 a ha).2.1⟩ hg
      by_cases hz : (lw σ a).1 = 0
      · have e : (sndL m (r + 1) (lw σ a).1 (lw σ a).2).1 = 0 := by
          cases m with
          | zero => exact hz
          | succ m => unfold sndL; rw [if_pos hz]; exact hz
        exact ⟨fun _ => f3 hz, fun _ => e⟩
      · refine ih (r + 1) _ _ f1 hgl h0 ?_ ?_ (by omega) hz
        · rw [f2.1 0 h0 (fun e => nI_m1 (n := 0) (by omega) (h4.symm.trans e))]; exact h4
        · intro i hi hi' b hb h5b q' hm' hq'
          by_cases hir : i < cnt (σ 4) n
          · rw [f2.2.2 i hir] at h5b
            by_cases hie : i = r
            · rw [hie] at h5b
              have eab : a = b := nI_inj (h5.symm.trans h5b) (by omega) (by omega)
              subst eab
              have e2 := f2.1 a ha (fun e => nI_m1 (n := q) (by omega) (hm.symm.trans e))
              have eq' : q = q' := nI_inj ((hm.symm.trans e2.symm).trans hm') (by omega) (by omega)
              subst eq'
              exact f4 hz
            · have hmb : ¬ σ 4 b = -1 := by
                obtain ⟨a2, ha2, h52, q2, hq2, hm2⟩ := hg.2.1 i hir
                have e : a2 = b := nI_inj (h52.symm.trans h5b) (by omega) (by omega)
                subst e
                exact fun e => nI_m1 (n := q2) (by omega) (hm2.symm.trans e)
              have e3 := f2.1 b hb hmb
              obtain ⟨g1, g2⟩ := hp i (by omega) hir b hb h5b q' (e3 ▸ hm') hq'
              refine ⟨g1, fun c hc => ⟨(g2 c hc).1, ?_⟩⟩
              rw [f2.1 c (g2 c hc).1 (fun e => nI_m1 (n := nxD op b q') (by have := g1.2; unfold nxD; omega) ((g2 c hc).2.symm.trans e))]
              exact (g2 c hc).2
          · omega
theorem snd_ok {σ : Nat → Nat → Int32} {n : Nat} {op jm : Nat → Nat} (h40 : n ≤ 40) (hn : σ 1 2 = nI n) (hw : wfC σ n) (hd : cdE σ n 2 3 op jm) : (snd σ).1 = 0 ↔ BadC n op jm := by
  have hI := gI_0 h40 hn hw
  have r4 : ∀ a, a < n → snd0 σ 4 a = -1 := by
    intro a ha
    unfold snd0
    rw [z_up_ne _ _ _ (by omega)]
    unfold fillR z_row
    rw [if_pos rfl, if_pos (by omega)]
  have r23 : snd0 σ 2 = σ 2 ∧ snd0 σ 3 = σ 3 := by
    unfold snd0
    rw [z_up_ne _ _ _ (by omega), z_up_ne _ _ _ (by omega)]
    unfold fillR z_row
    exact ⟨rfl, rfl⟩
  have hS : SI (snd0 σ) n op jm := by
    refine ⟨hI.1, ?_, fun a ha => Or.inl (r4 a ha), fun a ha hx => absurd (r4 a ha) hx⟩
    intro a ha
    rw [r23.1, r23.2]
    exact hd a ha
  obtain ⟨f1, f2, f3, f4⟩ := rch_ok hS Rch.z
  have hg := gI_rch (a := 0) (q := 0) (by omega) hI
  rw [nI_0] at f1 f2 f3 f4 hg
  unfold snd
  by_cases hz : (rch (snd0 σ) 0 0).1 = 0
  · unfold sndL
    rw [if_pos hz]
    exact ⟨f3, fun _ => hz⟩
  · have := f4 hz
    exact sndL_ok (fun a ha => (hd a ha).1) 40 0 _ _ f1 hg this.1 (by rw [nI_0]; exact this.2) (fun i hi => absurd hi (by omega)) (by omega) hz

/-- the same of the reference -/
def RI (σ : Nat → Nat → Int32) (n : Nat) (op jm : Nat → Nat) : Prop := n ≤ 40 ∧ cdE σ n 93 94 op jm ∧ ∀ a, a < n → σ 95 a = -1 ∨ ∃ q, σ 95 a = nI q ∧ Rch n op jm a q
def rMo (σ σ' : Nat → Nat → Int32) (n : Nat) : Prop := ∀ b, b < n → ¬ σ 95 b = -1 → σ' 95 b = σ 95 b
theorem rMo.tr {σ σ' σ'' : Nat → Nat → Int32} {n : Nat} (h : rMo σ σ' n) (h' : rMo σ' σ'' n) : rMo σ σ'' n :=
  fun b hb q => by rw [h' b hb (by rw [h b hb q]; exact q), h b hb q]
theorem rld_ok {σ : Nat → Nat → Int32} {n a q : Nat} {op jm : Nat → Nat} (h : RI σ n op jm) (hr : Rch n op jm a q) : RI (rld σ n a (nI q)).2 n op jm ∧ rMo σ (rld σ n a (nI q)).2 n ∧ ((rld σ n a (nI q)).1 = 0 → BadC n op jm) ∧ (¬ (rld σ n a (nI q)).1 = 0 → a < n ∧ (rld σ n a (nI q)).2 95 a = nI q) := by
  have hq := hr.le6
  obtain ⟨h40, hd, h1⟩ := h
  unfold rld
  by_cases hb : n ≤ a ∨ (¬ σ 95 a < 0 ∧ ¬ σ 95 a = nI q)
  · rw [if_pos hb]
    refine ⟨⟨h40, hd, h1⟩, fun _ _ _ => rfl, fun _ => ?_, fun g => absurd rfl g⟩
    by_cases ha : n ≤ a
    · exact ⟨a, q, hr, Or.inl ha⟩
    · rcases hb with hb | hb
      · exact absurd hb ha
      · rcases h1 a (by omega) with g | ⟨q', g, g'⟩
        · rw [g] at hb; exact absurd (by decide) hb.1
        · exact ⟨a, q, hr, Or.inr (Or.inr ⟨q', g', fun e => hb.2 (by rw [g, e])⟩)⟩
  · rw [if_neg hb]
    have ha : a < n := by omega
    have hz : σ 95 a = -1 ∨ σ 95 a = nI q := by
      rcases h1 a ha with g | ⟨q', g, g'⟩
      · exact Or.inl g
      · refine Or.inr (Decidable.byContradiction fun e => hb (Or.inr ⟨?_, e⟩))
        rw [g]
        exact nI_pos (by have := g'.le6; omega)
    refine ⟨⟨h40, ?_, ?_⟩, ?_, fun q => absurd q (by show ¬ (1 : Int32) = 0; decide), fun _ => ⟨ha, ?_⟩⟩
    all_goals dsimp only
    · intro b hb
      rw [z_up_ne _ _ _ (by omega), z_up_ne _ _ _ (by omega)]
      exact hd b hb
    · intro b hb
      rw [z_up_row, upE]
      by_cases hba : b = a
      · rw [if_pos hba, hba]; exact Or.inr ⟨q, rfl, hr⟩
      · rw [if_neg hba]; exact h1 b hb
    · intro b hb hx
      rw [z_up_row, upE]
      by_cases hba : b = a
      · rw [if_pos hba, hba]
        rw [hba] at hx
        rcases hz with g | g
        · exact absurd g hx
        · exact g.symm
      · rw [if_neg hba]
    · rw [z_up_s]
theorem rlw_ok {σ : Nat → Nat → Int32} {n a : Nat} {op jm : Nat → Nat} (h : RI σ n op jm) (ha : a < n) : RI (rlw σ n a).2 n op jm ∧ rMo σ (rlw σ n a).2 n ∧ ((rlw σ n a).1 = 0 → BadC n op jm) ∧ (¬ (rlw σ n a).1 = 0 → ∀ q, q ≤ 6 → σ 95 a = nI q → okD op a q ∧ ∀ b, scs op jm a b → b < n ∧ (rlw σ n a).2 95 b = nI (nxD op a q)) := by
  have e1 := h.2.1.oN ha
  unfold rlw
  rcases h.2.2 a ha with g | ⟨q, g, hr⟩
  · rw [if_pos (by rw [g]; decide)]
    exact ⟨h, fun _ _ _ => rfl, fun e => absurd e (by show ¬ (1 : Int32) = 0; decide), fun _ q hq e => absurd (e.symm.trans g) (nI_m1 (by omega))⟩
  · have hq := hr.le6
    have e2 : tN (σ 95 a) = q := by rw [g]; exact tN_nI (by omega)
    rw [if_neg (by rw [g]; exact nI_pos (by omega)), e1, e2]
    have hu : ∀ {P : Nat → Prop}, P q → ∀ q', q' ≤ 6 → σ 95 a = nI q' → P q' := by
      intro P hp q' hq' e
      rw [← nI_inj (g.symm.trans e) (by omega) (by omega)]
      exact hp
    by_cases hb : q < tk (op a) ∨ 6 < q - tk (op a) + gv (op a)
    · rw [if_pos hb]
      refine ⟨h, fun _ _ _ => rfl, fun _ => ⟨a, q, hr, Or.inr (Or.inl fun g => ?_)⟩, fun g => absurd rfl g⟩
      have := g.1; have := g.2; omega
    · rw [if_neg hb]
      have ho : okD op a q := ⟨by omega, by omega⟩
      unfold rlB
      by_cases h13 : op a = 13
      · rw [if_pos h13, h.2.1.jN ha (Or.inl h13)]
        have := rld_ok h (hr.s ha ho (Or.inr ⟨Or.inl h13, rfl⟩))
        refine ⟨this.1, this.2.1, this.2.2.1, fun g => hu (P := fun q' => okD op a q' ∧ ∀ b, scs op jm a b → b < n ∧ _ = nI (nxD op a q')) ⟨ho, fun b hs => ?_⟩⟩
        rcases hs with hs | hs
        · exact absurd h13 hs.1
        · rw [hs.2]; exact this.2.2.2 g
      · rw [if_neg h13]
        by_cases h14 : op a = 14
        · rw [if_pos h14, h.2.1.jN ha (Or.inr h14)]
          have f1 := rld_ok h (hr.s ha ho (Or.inr ⟨Or.inr h14, rfl⟩))
          by_cases hz : (rld σ n (jm a) (nI (q - tk (op a) + gv (op a)))).1 = 0
          · rw [if_pos hz]
            exact ⟨f1.1, f1.2.1, f1.2.2.1, fun g => absurd hz g⟩
          · rw [if_neg hz]
            have f2 := rld_ok f1.1 (hr.s ha ho (Or.inl ⟨h13, by omega, rfl⟩))
            refine ⟨f2.1, f1.2.1.tr f2.2.1, f2.2.2.1, fun g => hu (P := fun q' => okD op a q' ∧ ∀ b, scs op jm a b → b < n ∧ _ = nI (nxD op a q')) ⟨ho, fun b hs => ?_⟩⟩
            rcases hs with hs | hs
            · rw [hs.2.2]; exact f2.2.2.2 g
            · rw [hs.2]
              have := f1.2.2.2 hz
              refine ⟨this.1, ?_⟩
              have k := this.2
              refine (f2.2.1 _ this.1 ?_).trans k
              exact fun e => nI_m1 (n := nxD op a q) (by have := ho.2; unfold nxD; omega) (k.symm.trans e)
        · rw [if_neg h14]
          by_cases h15 : op a = 15
          · rw [if_pos h15]
            refine ⟨h, fun _ _ _ => rfl, fun g => absurd g (by show ¬ (1 : Int32) = 0; decide), fun _ => hu (P := fun q' => okD op a q' ∧ ∀ b, scs op jm a b → b < n ∧ _ = nI (nxD op a q')) ⟨ho, fun b hs => ?_⟩⟩
            rcases hs with hs | hs
            · exact absurd h15 hs.2.1
            · rcases hs.1 with g | g <;> omega
          · rw [if_neg h15]
            have := rld_ok h (hr.s ha ho (Or.inl ⟨h13, h15, rfl⟩))
            refine ⟨this.1, this.2.1, this.2.2.1, fun g => hu (P := fun q' => okD op a q' ∧ ∀ b, scs op jm a b → b < n ∧ _ = nI (nxD op a q')) ⟨ho, fun b hs => ?_⟩⟩
            rcases hs with hs | hs
            · rw [hs.2.2]; exact this.2.2.2 g
            · rcases hs.1 with g | g <;> omega
theorem rsI_ok {n : Nat} {op jm : Nat → Nat} : ∀ (m k : Nat) (g : Int32) (σ : Nat → Nat → Int32), RI σ n op jm → k + m = n → (g = 0 → BadC n op jm) → RI (rsI n m k g σ).2 n op jm ∧ rMo σ (rsI n m k g σ).2 n ∧ ((rsI n m k g σ).1 = 0 → BadC n op jm) ∧ (¬ (rsI n m k g σ).1 = 0 → ∀ a, k ≤ a → a < n → ∀ q, q ≤ 6 → σ 95 a = nI q → okD op a q ∧ ∀ b, scs op jm a b → b < n ∧ (rsI n m k g σ).2 95 b = nI (nxD op a q)) := by
  intro m
  induction m with
  | zero =>
    intro k g σ h hk hb
    exact ⟨h, fun _ _ _ => rfl, hb, fun _ a h1 h2 => by omega⟩
  | succ m ih =>
    intro k g σ h hk hb
    unfold rsI
    by_cases hg : g = 0
    · rw [if_pos hg]
      exact ⟨h, fun _ _ _ => rfl, hb, fun e => absurd hg e⟩
    · rw [if_neg hg]
      obtain ⟨f1, f2, f3, f4⟩ := rlw_ok h (a := k) (by omega)
      obtain ⟨g1, g2, g3, g4⟩ := ih (k + 1) (rlw σ n k).1 (rlw σ n k).2 f1 (by omega) f3
      refine ⟨g1, f2.tr g2, g3, fun e a hka han q hq ha => ?_⟩
      have keep : ∀ {b q : Nat}, b < n → q < 2 ^ 31 → (rlw σ n k).2 95 b = nI q → (rsI n m (k + 1) (rlw σ n k).1 (rlw σ n k).2).2 95 b = nI q := by
        intro b q hb hq hx
        rw [g2 b hb (fun e => nI_m1 hq (hx.symm.trans e))]; exact hx
      by_cases hak : a = k
      · subst hak
        have hz : ¬ (rlw σ n a).1 = 0 := by
          intro hz
          apply e
          cases m with
          | zero => exact hz
          | succ m => unfold rsI; rw [if_pos hz]; exact hz
        obtain ⟨w1, w2⟩ := f4 hz q hq ha
        exact ⟨w1, fun b hs => ⟨(w2 b hs).1, keep (w2 b hs).1 (by have := w1.2; unfold nxD; omega) (w2 b hs).2⟩⟩
      · exact g4 e a (by omega) han q hq (by rw [f2 a han (fun e => nI_m1 (by omega) (ha.symm.trans e))]; exact ha)
theorem cnt_mo {f g : Nat → Int32} : ∀ (n : Nat), (∀ b, b < n → ¬ f b = -1 → ¬ g b = -1) → cnt f n ≤ cnt g n ∧ (cnt f n = cnt g n → ∀ b, b < n → ¬ g b = -1 → ¬ f b = -1) := by
  intro n
  induction n with
  | zero => exact fun _ => ⟨Nat.le_refl _, fun _ b hb => by omega⟩
  | succ n ih =>
    intro h
    have i := ih (fun b hb => h b (by omega))
    have h1 := h n (by omega)
    simp only [cnt]
    by_cases hf : f n = -1
    · by_cases hg : g n = -1
      · rw [if_pos hf, if_pos hg]
        refine ⟨by omega, fun e b hb hx => ?_⟩
        by_cases hbn : b = n
        · subst hbn; exact absurd hg hx
        · exact i.2 (by omega) b (by omega) hx
      · rw [if_pos hf, if_neg hg]
        exact ⟨by omega, fun e => by omega⟩
    · have hg := h1 hf
      rw [if_neg hf, if_neg hg]
      refine ⟨by omega, fun e b hb hx => ?_⟩
      by_cases hbn : b = n
      · subst hbn; exact hf
      · exact i.2 (by omega) b (by omega) hx
theorem rsO_0 {n : Nat} : ∀ (m : Nat) (σ : Nat → Nat → Int32), (rsO n m 0 σ).1 = 0 := by
  intro m
  induction m with
  | zero => intro σ; rfl
  | succ m ih =>
    intro σ
    unfold rsO
    have e : (rsI n n 0 0 σ).1 = 0 := by
      cases n with
      | zero => rfl
      | succ n => unfold rsI; rw [if_pos rfl]
    rw [e]
    exact ih _
theorem rsO_ok {n : Nat} {op jm : Nat → Nat} : ∀ (m : Nat) (g : Int32) (σ : Nat → Nat → Int32), RI σ n op jm → 0 < n → σ 95 0 = nI 0 → ¬ g = 0 → (n + 1 ≤ cnt (σ 95) n + m ∨ ¬ BadC n op jm) → ((rsO n m g σ).1 = 0 ↔ BadC n op jm) := by
  intro m
  induction m with
  | zero =>
    intro g σ h h0 h95 hg hc
    have := cnt_le (σ 95) n
    rcases hc with hc | hc
    · omega
    · exact ⟨fun e => absurd e hg, fun e => absurd e hc⟩
  | succ m ih =>
    intro g σ h h0 h95 hg hc
    unfold rsO
    obtain ⟨f1, f2, f3, f4⟩ := rsI_ok n 0 g σ h (by omega) (fun e => absurd e hg)
    by_cases hz : (rsI n n 0 g σ).1 = 0
    · rw [hz]
      exact ⟨fun _ => f3 hz, fun _ => rsO_0 m _⟩
    · refine ih _ _ f1 h0 (by rw [f2 0 h0 (fun e => nI_m1 (n := 0) (by omega) (h95.symm.trans e))]; exact h95) hz ?_
      have cm := cnt_mo (f := σ 95) (g := (rsI n n 0 g σ).2 95) n (fun b hb hx e => hx (by rw [← f2 b hb hx]; exact e))
      rcases hc with hc | hc
      · by_cases heq : cnt (σ 95) n = cnt ((rsI n n 0 g σ).2 95) n
        · refine Or.inr (clsd.good (m := (rsI n n 0 g σ).2 95) ?_ h0 (by rw [f2 0 h0 (fun e => nI_m1 (n := 0) (by omega) (h95.symm.trans e))]; exact h95))
          intro a q ha hq hm
          have hx : ¬ σ 95 a = -1 := cm.2 heq a ha (fun e => nI_m1 (by omega) (hm.symm.trans e))
          exact f4 hz a (by omega) ha q hq (by rw [← f2 a ha hx]; exact hm)
        · have := cm.1
          exact Or.inl (by omega)
      · exact Or.inr hc
theorem rsnd_ok {σ : Nat → Nat → Int32} {n : Nat} {op jm : Nat → Nat} (h40 : n ≤ 40) (hd : cdE σ n 93 94 op jm) : (rsnd σ n).1 = 0 ↔ BadC n op jm := by
  have r95 : ∀ a, a < n → rs0 σ 95 a = -1 := by
    intro a ha
    unfold rs0 rowF z_row
    rw [if_pos rfl, if_pos (by omega)]
  have hS : RI (rs0 σ) n op jm := by
    refine ⟨h40, ?_, fun a ha => Or.inl (r95 a ha)⟩
    intro a ha
    unfold rs0
    rw [rowF_ne _ _ _ (by omega), rowF_ne _ _ _ (by omega)]
    exact hd a ha
  obtain ⟨f1, f2, f3, f4⟩ := rld_ok hS Rch.z
  rw [nI_0] at f1 f2 f3 f4
  unfold rsnd
  by_cases hz : (rld (rs0 σ) n 0 0).1 = 0
  · rw [hz]
    exact ⟨fun _ => f3 hz, fun _ => rsO_0 n _⟩
  · have := f4 hz
    refine rsO_ok n _ _ f1 this.1 (by rw [nI_0]; exact this.2) hz (Or.inl ?_)
    have : 0 < cnt ((rld (rs0 σ) n 0 0).2 95) n := by
      have cm := cnt_mo (f := fun _ => -1) (g := (rld (rs0 σ) n 0 0).2 95) n (fun b _ hx => absurd rfl hx)
      by_cases he : cnt (fun _ => (-1 : Int32)) n = cnt ((rld (rs0 σ) n 0 0).2 95) n
      · exact absurd rfl (cm.2 he 0 this.1 (by rw [this.2]; decide))
      · omega
    omega
