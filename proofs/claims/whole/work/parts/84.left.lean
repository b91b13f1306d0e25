/-! PART 84: what the makers leave -/
theorem SOm.tr {T : Nat} {σ σ' σ'' : Nat → Nat → Int32} {n n' n'' g g' g'' c c' c'' : Nat} (h : SOm T σ σ' n n' g g' c c') (h' : SOm T σ' σ'' n' n'' g' g'' c' c'') : SOm T σ σ'' n n'' g g'' c c'' := by
  obtain ⟨a1, a2, a3, a4, a5, a6, a7, a8, a9⟩ := h
  obtain ⟨b1, b2, b3, b4, b5, b6, b7, b8, b9⟩ := h'
  refine ⟨by omega, fun i v h1 h2 hv => (b2 i v h1 h2 (by omega)).trans (a2 i v h1 h2 hv), by omega, fun i v h1 h2 hv => (b4 i v h1 h2 (by omega)).trans (a4 i v h1 h2 hv), fun x hx => (b5 x (by omega)).trans (a5 x hx), by omega, fun i hi => ⟨(b7 i (by omega)).1.trans (a7 i hi).1, (b7 i (by omega)).2.trans (a7 i hi).2⟩, fun v hv => b8 v (a8 v hv), fun b hb => (b9 b hb).trans (a9 b hb)⟩
/-- the class's maker after j instructions -/
def cF (σ : Nat → Nat → Int32) (t j : Nat) : Nat → Nat → Int32 := mkF (mk0 σ t) (tr t) j
section
variable {σ ρ : Nat → Nat → Int32} {t len : Nat} {k op : Nat → Nat}
theorem cF_mono (h : REC σ ρ len k op) {j : Nat} : ∀ j', j ≤ j' → j' ≤ len → SOm (tr t) (cF σ t j) (cF σ t j') (nV (cF σ t j) (tr t)) (nV (cF σ t j') (tr t)) (gV (cF σ t j) (tr t)) (gV (cF σ t j') (tr t)) (cV (cF σ t j)) (cV (cF σ t j')) := by
  intro j'
  induction j' with
  | zero => intro h1 _; rw [show j = 0 by omega]; exact ⟨Nat.le_refl _, fun _ _ _ _ _ => rfl, Nat.le_refl _, fun _ _ _ _ _ => rfl, fun _ _ => rfl, Nat.le_refl _, fun _ _ => ⟨rfl, rfl⟩, fun _ q => q, fun _ _ => rfl⟩
  | succ j' ih =>
    intro h1 h2
    by_cases hj : j = j' + 1
    · rw [hj]; exact ⟨Nat.le_refl _, fun _ _ _ _ _ => rfl, Nat.le_refl _, fun _ _ _ _ _ => rfl, fun _ _ => rfl, Nat.le_refl _, fun _ _ => ⟨rfl, rfl⟩, fun _ q => q, fun _ _ => rfl⟩
    · exact (ih (by omega) (by omega)).tr (mk_one (t := t) h (by omega)).1
theorem R_mono (h : REC σ ρ len k op) {j : Nat} : ∀ j', j < j' → j' ≤ len → rkF ρ j' 122 j = rkF ρ (j + 1) 122 j := by
  intro j'
  induction j' with
  | zero => intro h1; omega
  | succ j' ih =>
    intro h1 h2
    by_cases hj : j = j'
    · rw [hj]
    · rw [(mk_one (t := 0) h (show j' < len by omega)).2.1 j (by omega)]
      exact ih (by omega) (by omega)
/-- what came at instruction j -/
def CAM (σ ρ : Nat → Nat → Int32) (t : Nat) (op : Nat → Nat) (j : Nat) : Prop :=
  (cV (cF σ t (j + 1)) = cV (cF σ t j) ∧ rkF ρ (j + 1) 122 j = 0 ∧ gV (cF σ t (j + 1)) (tr t) = gV (cF σ t j) (tr t) ∧ op j ≠ 12 ∧ ∀ v, nV (cF σ t j) (tr t) ≤ v → v < nV (cF σ t (j + 1)) (tr t) → cF σ t (j + 1) (tr t + 2) v = 0) ∨
  (cV (cF σ t (j + 1)) = cV (cF σ t j) + 1 ∧ (
    (op j = 14 ∧ cF σ t (j + 1) 23 (cV (cF σ t j)) = 1 ∧ cF σ t (j + 1) 24 (cV (cF σ t j)) = nI (gV (cF σ t j) (tr t)) ∧ rkF ρ (j + 1) 122 j = 1 ∧ gV (cF σ t (j + 1)) (tr t) = gV (cF σ t j) (tr t) + 1 ∧ nV (cF σ t (j + 1)) (tr t) = nV (cF σ t j) (tr t)) ∨
    (op j = 12 ∧ cF σ t (j + 1) 23 (cV (cF σ t j)) = nI 2 ∧ rkF ρ (j + 1) 122 j = nI 2 ∧ gV (cF σ t (j + 1)) (tr t) = gV (cF σ t j) (tr t) ∧ nV (cF σ t (j + 1)) (tr t) = nV (cF σ t j) (tr t)) ∨
    (3 ≤ op j ∧ op j ≤ 8 ∧ cF σ t (j + 1) 23 (cV (cF σ t j)) = 0 ∧ cF σ t (j + 1) 24 (cV (cF σ t j)) = nI (nV (cF σ t j) (tr t)) ∧ rkF ρ (j + 1) 122 j = -3 - nI (nV (cF σ t j) (tr t)) ∧ gV (cF σ t (j + 1)) (tr t) = gV (cF σ t j) (tr t) ∧ nV (cF σ t (j + 1)) (tr t) = nV (cF σ t j) (tr t) + 1 ∧ cF σ t (j + 1) (tr t + 2) (nV (cF σ t j) (tr t)) = nI (op j))))
theorem cam (h : REC σ ρ len k op) {j : Nat} (hj : j < len) : CAM σ ρ t op j := by
  obtain ⟨h1, h2, w, ⟨v0, v3, v12, v14, vm⟩, h4⟩ := mk_one (t := t) h hj
  have ho := (h.2 j hj).2.2.2.2.2.1
  unfold CAM
  by_cases h0 : op j = 0
  · obtain ⟨v, a1, a2, a3, a4, a5, a6, a7, a8⟩ := v0 h0
    exact Or.inl ⟨a5, a6, a7, by omega, a8⟩
  · by_cases h38 : 3 ≤ op j ∧ op j ≤ 8
    · obtain ⟨a, b, v, ha, hb, sa, sb, hv, hw, hg, q⟩ := v3 h38
      rcases q with ⟨q1, q2, q3, q4, q5, q6, q7⟩ | ⟨q1, q2, q3, q4⟩
      · exact Or.inl ⟨q5, q6, hg, by omega, q7⟩
      · rcases q4 with ⟨r1, r2, r3⟩ | ⟨r1, r2, r3, r4, r5, r6⟩
        · exact Or.inl ⟨r2, r3, hg, by omega, fun v b1 b2 => by rw [show nV (cF σ t (j + 1)) (tr t) = _ from r1] at b2; exact absurd b2 (by have : nV (cF σ t j) (tr t) ≤ v := b1; exact Nat.not_lt.mpr this)⟩
        · refine Or.inr ⟨r3, Or.inr (Or.inr ⟨h38.1, h38.2, r4, r5, r6, hg, r1, ?_⟩)⟩
          rw [r2] at q1
          exact q1
    · by_cases h12 : op j = 12
      · obtain ⟨b, hb, sb, a1, a2, a3, a4, a5, a6, a7⟩ := v12 h12
        exact Or.inr ⟨a3, Or.inr (Or.inl ⟨h12, a4, a6, a2, a1⟩)⟩
      · by_cases h14 : op j = 14
        · obtain ⟨b, hb, sb, a1, q⟩ := v14 h14
          rcases q with ⟨q1, q2, q3, q4⟩ | ⟨q1, q2, q3, q4, q5, _⟩
          · exact Or.inl ⟨q1, q3, q2, h12, fun v b1 b2 => by rw [show nV (cF σ t (j + 1)) (tr t) = _ from a1] at b2; exact absurd b2 (by have : nV (cF σ t j) (tr t) ≤ v := b1; exact Nat.not_lt.mpr this)⟩
          · exact Or.inr ⟨q1, Or.inl ⟨h14, q4, q5, q3, q2, a1⟩⟩
        · obtain ⟨a1, a2, a3, a4⟩ := vm (by omega)
          exact Or.inl ⟨a3, a4, a2, h12, fun v b1 b2 => by rw [show nV (cF σ t (j + 1)) (tr t) = _ from a1] at b2; exact absurd b2 (by have : nV (cF σ t j) (tr t) ≤ v := b1; exact Nat.not_lt.mpr this)⟩
theorem c_zero : cV (cF σ t 0) = 0 ∧ nV (cF σ t 0) (tr t) = 6 ∧ gV (cF σ t 0) (tr t) = 0 := by
  have := (@MI_0 σ σ t).nums (by omega)
  exact ⟨this.2.2.2.1, this.1, this.2.2.1⟩
/-- an operation's value came at some instruction -/
theorem opv (h : REC σ ρ len k op) : ∀ j, j ≤ len → ∀ v, 6 ≤ v → v < nV (cF σ t j) (tr t) → ¬ cF σ t j (tr t + 2) v = 0 → ∃ i, i < j ∧ nV (cF σ t i) (tr t) = v ∧ cV (cF σ t (i + 1)) = cV (cF σ t i) + 1 ∧ cF σ t (i + 1) 23 (cV (cF σ t i)) = 0 ∧ cF σ t (i + 1) 24 (cV (cF σ t i)) = nI v ∧ nV (cF σ t (i + 1)) (tr t) = v + 1 := by
  intro j
  induction j with
  | zero => intro _ v h6 hv; rw [c_zero.2.1] at hv; omega
  | succ j ih =>
    intro hj v h6 hv hk
    have mo := cF_mono (t := t) h (j := j) (j + 1) (by omega) hj
    by_cases hvj : v < nV (cF σ t j) (tr t)
    · have e := mo.2.1 2 v (by omega) (by omega) hvj
      rw [e] at hk
      obtain ⟨i, h1, h2⟩ := ih (by omega) v h6 hvj hk
      exact ⟨i, by omega, h2⟩
    · rcases cam (t := t) h (show j < len by omega) with ⟨_, _, _, _, q⟩ | ⟨q1, q2⟩
      · exact absurd (q v (by omega) hv) hk
      · rcases q2 with ⟨_, _, _, _, _, q⟩ | ⟨_, _, _, _, q⟩ | ⟨_, _, p1, p2, p3, p4, p5, p6⟩
        · omega
        · omega
        · have : nV (cF σ t j) (tr t) = v := by omega
          exact ⟨j, by omega, this, q1, p1, by rw [p2, this], by omega⟩
/-- a guard was put at some IF -/
theorem grd (h : REC σ ρ len k op) : ∀ j, j ≤ len → ∀ g, g < gV (cF σ t j) (tr t) → ∃ i, i < j ∧ op i = 14 ∧ cF σ t j (tr t + 7) g = cF σ t i 22 (dpt op i - 1) ∧ cF σ t j (tr t + 8) g = σ 18 i := by
  intro j
  induction j with
  | zero => intro _ g hg; rw [c_zero.2.2] at hg; omega
  | succ j ih =>
    intro hj g hg
    obtain ⟨h1, h2, w, ⟨v0, v3, v12, v14, vm⟩, h4⟩ := mk_one (t := t) h (show j < len by omega)
    by_cases hgj : g < gV (cF σ t j) (tr t)
    · obtain ⟨i, a1, a2, a3, a4⟩ := ih (by omega) g hgj
      refine ⟨i, by omega, a2, ?_, ?_⟩
      · rw [← a3]; exact h1.2.2.2.1 7 g (by omega) (by omega) hgj
      · rw [← a4]; exact h1.2.2.2.1 8 g (by omega) (by omega) hgj
    · rcases cam (t := t) h (show j < len by omega) with ⟨_, _, q, _, _⟩ | ⟨q1, q2⟩
      · omega
      · rcases q2 with ⟨p1, _, _, _, p5, _⟩ | ⟨_, _, _, p4, _⟩ | ⟨_, _, _, _, _, p6, _⟩
        · have eg : gV (cF σ t j) (tr t) = g := by omega
          obtain ⟨b, hb, sb, a1, q⟩ := v14 p1
          rcases q with ⟨_, r2, _⟩ | ⟨_, _, _, _, _, _, r7, r8, _⟩
          · have : gV (cF σ t (j + 1)) (tr t) = gV (cF σ t j) (tr t) := r2
            omega
          · refine ⟨j, by omega, p1, ?_, ?_⟩
            · have : cF σ t (j + 1) (tr t + 7) (gV (cF σ t j) (tr t)) = nI b := r7
              rw [eg] at this
              rw [this]; exact sb.symm
            · have : cF σ t (j + 1) (tr t + 8) (gV (cF σ t j) (tr t)) = σ 18 j := r8
              rw [eg] at this
              exact this
        · omega
        · omega
/-- what came is an operation, a guard or an out -/
theorem cam3 (h : REC σ ρ len k op) : ∀ j, j ≤ len → ∀ c, c < cV (cF σ t j) → ∃ i, i < j ∧ cV (cF σ t i) = c ∧ cV (cF σ t (i + 1)) = c + 1 := by
  intro j
  induction j with
  | zero => intro _ c hc; rw [c_zero.1] at hc; omega
  | succ j ih =>
    intro hj c hc
    by_cases hcj : c < cV (cF σ t j)
    · obtain ⟨i, a1, a2⟩ := ih (by omega) c hcj
      exact ⟨i, by omega, a2⟩
    · rcases cam (t := t) h (show j < len by omega) with ⟨q, _⟩ | ⟨q, _⟩
      · omega
      · exact ⟨j, by omega, by omega, by omega⟩
/-- needed and constant are known -/
def s3F (σ : Nat → Nat → Int32) (t len : Nat) : Nat → Nat → Int32 := mcS (mpS (tr t) (nV (cF σ t len) (tr t)) (nvS (cF σ t len) (tr t) 6)) (tr t) (nV (cF σ t len) (tr t))
def mkZ (σ : Nat → Nat → Int32) (t len : Nat) : Nat → Nat → Int32 := soS (tr t) (cV (cF σ t len)) 0 (s3F σ t len)
theorem mkZ_E : mkE (cF σ t len) t (nV (cF σ t len) (tr t)) (cV (cF σ t len)) = mkZ σ t len := rfl
theorem s3_row {b : Nat} (h : b ≠ 25) (h' : b ≠ 26) (h'' : b ≠ tr t + 12) : s3F σ t len b = cF σ t len b := by
  unfold s3F
  rw [mcS_ne _ _ _ h', mpS_ne h, nvS_ne ⟨h'', h⟩]
/-- a value's kind and parts do not change any more -/
theorem s3_val (h : REC σ ρ len k op) {j i v : Nat} (hj : j ≤ len) (h2 : 2 ≤ i) (h5 : i ≤ 5) (hv : v < nV (cF σ t j) (tr t)) : s3F σ t len (tr t + i) v = cF σ t j (tr t + i) v := by
  have := tr_lo t
  rw [s3_row (by omega) (by omega) (by omega)]
  exact (cF_mono h len hj (Nat.le_refl _)).2.1 i v h2 h5 hv
theorem s3_grd (h : REC σ ρ len k op) {j i v : Nat} (hj : j ≤ len) (h2 : 7 ≤ i) (h5 : i ≤ 10) (hv : v < gV (cF σ t j) (tr t)) : s3F σ t len (tr t + i) v = cF σ t j (tr t + i) v := by
  have := tr_lo t
  rw [s3_row (by omega) (by omega) (by omega)]
  exact (cF_mono h len hj (Nat.le_refl _)).2.2.2.1 i v h2 h5 hv
theorem s3_pic (h : REC σ ρ len k op) {j x : Nat} (hj : j ≤ len) (hx : x < gV (cF σ t j) (tr t) * 12) : s3F σ t len (tr t + 11) x = cF σ t j (tr t + 11) x := by
  have := tr_lo t
  rw [s3_row (by omega) (by omega) (by omega)]
  exact (cF_mono h len hj (Nat.le_refl _)).2.2.2.2.1 x hx
theorem s3_cam (h : REC σ ρ len k op) {j c : Nat} (hj : j ≤ len) (hc : c < cV (cF σ t j)) : s3F σ t len 23 c = cF σ t j 23 c ∧ s3F σ t len 24 c = cF σ t j 24 c := by
  have := tr_lo t
  rw [s3_row (by omega) (by omega) (by omega), s3_row (by omega) (by omega) (by omega)]
  exact (cF_mono h len hj (Nat.le_refl _)).2.2.2.2.2.2.1 c hc
theorem n36 (h : REC σ ρ len k op) : 6 ≤ nV (cF σ t len) (tr t) ∧ nV (cF σ t len) (tr t) ≤ 36 ∧ KP (cF σ t len) (tr t) (nV (cF σ t len) (tr t)) := by
  have a := (mk_all (t := t) h len (Nat.le_refl _)).1
  have := h.1
  exact ⟨a.1.2.2.1, Nat.le_trans a.2.1 (by omega), a.1.kp⟩
theorem s3_kp (h : REC σ ρ len k op) : KP (s3F σ t len) (tr t) (nV (cF σ t len) (tr t)) := by
  have := tr_lo t
  refine (n36 h).2.2.to fun i h1 h2 => ?_
  exact s3_row (by omega) (by omega) (by omega)
theorem nv_kp (h : REC σ ρ len k op) : KP (nvS (cF σ t len) (tr t) 6) (tr t) (nV (cF σ t len) (tr t)) := by
  have := tr_lo t
  refine (n36 h).2.2.to fun i h1 h2 => ?_
  exact nvS_ne ⟨by omega, by omega⟩
/-- what was marked is needed -/
theorem s3_need (h : REC σ ρ len k op) {j v : Nat} (hj : j ≤ len) (hv : ¬ cF σ t j 25 v = 0) : ¬ s3F σ t len 25 v = 0 := by
  have hT := tr_lo t
  have a := (cF_mono (t := t) h len hj (Nat.le_refl _)).2.2.2.2.2.2.2.1 v hv
  unfold s3F
  rw [mcS_ne _ _ _ (by omega)]
  refine (mpS_cl hT (n36 h).2.1 _ _ (Nat.le_refl _) (nv_kp h) (fun v h1 h2 => absurd h2 (Nat.not_lt.mpr h1))).2 v ?_
  rw [nvS_25 hT, mkd_iff]
  by_cases hx : ∃ j, j < 6 ∧ tN (cF σ t len 21 j) = v
  · rw [if_pos hx]; decide
  · rw [if_neg hx]; exact a
theorem s3_next (h : REC σ ρ len k op) {l : Nat} (hl : l < 6) : s3F σ t len (tr t + 12) l = cF σ t len 21 l ∧ ¬ s3F σ t len 25 (tN (cF σ t len 21 l)) = 0 := by
  have hT := tr_lo t
  unfold s3F
  rw [mcS_ne _ _ _ (by omega), mcS_ne _ _ _ (by omega), mpS_ne (by omega)]
  refine ⟨nvS_12 hT 6 l hl, ?_⟩
  refine (mpS_cl hT (n36 h).2.1 _ _ (Nat.le_refl _) (nv_kp h) (fun v h1 h2 => absurd h2 (Nat.not_lt.mpr h1))).2 _ ?_
  rw [nvS_25 hT, mkd_iff, if_pos ⟨l, hl, rfl⟩]; decide
theorem s3_cl (h : REC σ ρ len k op) : clN (s3F σ t len) (tr t) (nV (cF σ t len) (tr t)) 0 := by
  have hT := tr_lo t
  have a := (mpS_cl hT (n36 (t := t) h).2.1 _ _ (Nat.le_refl _) (nv_kp h) (fun v h1 h2 => absurd h2 (Nat.not_lt.mpr h1))).1
  unfold s3F clN
  rw [mcS_ne _ _ _ (b := 25) (by omega), mcS_ne _ _ _ (b := tr t + 2) (by omega), mcS_ne _ _ _ (b := tr t + 3) (by omega), mcS_ne _ _ _ (b := tr t + 4) (by omega)]
  exact a
theorem s3_cE (h : REC σ ρ len k op) : cEq (s3F σ t len) (tr t) (nV (cF σ t len) (tr t)) := by
  have hT := tr_lo t
  unfold s3F
  refine mcS_cE hT (n36 h).2.1 ((nv_kp h).to fun i h1 h2 => mpS_ne (by omega) _)
/-- the reference's values behind its last part -/
def r3F (ρ : Nat → Nat → Int32) (t len n : Nat) : Nat → Nat → Int32 := mT (rkF ρ len) t n
theorem r3_rel (h : REC σ ρ len k op) (ht : t < 4) : (∀ v, v < nV (cF σ t len) (tr t) → s3F σ t len 25 v = r3F ρ t len (nV (cF σ t len) (tr t)) 117 v) ∧ (∀ v, v < nV (cF σ t len) (tr t) → s3F σ t len 26 v = r3F ρ t len (nV (cF σ t len) (tr t)) 118 v) ∧ r3F ρ t len (nV (cF σ t len) (tr t)) 112 t = stayF (s3F σ t len (tr t + 12)) 6 ∧ (∀ b, b ≠ 112 → b ≠ 117 → b ≠ 118 → r3F ρ t len (nV (cF σ t len) (tr t)) b = rkF ρ len b) ∧ ∀ x, x ≠ t → r3F ρ t len (nV (cF σ t len) (tr t)) 112 x = rkF ρ len 112 x := by
  have hT := tr_lo t
  obtain ⟨a1, a2, a3, a4, a5, a6, a7⟩ := (mk_all (t := t) h len (Nat.le_refl _)).1
  have h36 := (n36 (t := t) h).2.1
  have hfr : ∀ l, l < 6 → cF σ t len 21 l = rkF ρ len 120 l := fun l hl => (a3.2.2.2.1 l hl).1
  have vv0 : ∀ v, v < nV (cF σ t len) (tr t) → VV (nvS (cF σ t len) (tr t) 6) (mC (rkF ρ len) t 6) (tr t) v := by
    intro v hv
    have := a1.2.2.2 v hv
    unfold VV at this ⊢
    rw [nvS_ne ⟨by omega, by omega⟩, nvS_ne ⟨by omega, by omega⟩, nvS_ne ⟨by omega, by omega⟩, nvS_ne ⟨by omega, by omega⟩, mC_ne (by omega), mC_ne (by omega), mC_ne (by omega), mC_ne (by omega)]
    exact this
  have nr0 : NR (nvS (cF σ t len) (tr t) 6) (mC (rkF ρ len) t 6) (nV (cF σ t len) (tr t)) := by
    intro v hv
    rw [nvS_25 hT, mC_117]
    exact mkd_mkd_eq hfr (P := fun v => v < nV (cF σ t len) (tr t)) (fun v hv => a6.1 v hv) v hv
  have nr := mp_rel hT h36 _ _ _ (Nat.le_refl _) vv0 nr0
  refine ⟨fun v hv => ?_, ?_, ?_, fun b h1 h2 h3 => mT_ne ⟨h1, h2, h3⟩, fun x hx => ?_⟩
  · unfold s3F r3F mT
    rw [mcS_ne _ _ _ (by omega), mE_ne (by omega)]
    exact nr v hv
  · unfold s3F r3F mT
    refine cst_rel hT h36 a1.2.2.1 (fun v hv => ?_) (fun l hl => ?_)
    · have := vv0 v hv
      unfold VV at this ⊢
      rw [mpS_ne (by omega), mpS_ne (by omega), mpS_ne (by omega), mpS_ne (by omega), mD_ne (by omega), mD_ne (by omega), mD_ne (by omega), mD_ne (by omega)]
      exact this
    · rw [mD_ne (by omega), mC_118 6 l hl, mpS_ne (by omega), nvS_12 hT 6 l hl, hfr l hl]
  · unfold r3F mT
    rw [mE_ne (by omega), mD_ne (by omega), mC_112]
    exact stayF_congr 6 (fun l hl => by rw [(s3_next h hl).1, hfr l hl])
  · unfold r3F mT
    rw [mE_ne (by omega), mD_ne (by omega)]
    have : ∀ i, mC (rkF ρ len) t i 112 x = rkF ρ len 112 x := by
      intro i
      induction i with
      | zero => unfold mC; rw [z_up_o _ _ (Or.inr hx)]
      | succ i ih => unfold mC; rw [z_up_o _ _ (Or.inr hx), z_up_ne _ _ _ (by omega), z_up_ne _ _ _ (by omega)]; exact ih
    exact this 6
theorem lnk (h : REC σ ρ len k op) (ht : t < 4) {j : Nat} (hj : j < len) : LNK (s3F σ t len) (r3F ρ t len (nV (cF σ t len) (tr t))) (nV (cF σ t len) (tr t)) (fun j => cV (cF σ t j)) j := by
  have e122 : r3F ρ t len (nV (cF σ t len) (tr t)) 122 j = rkF ρ (j + 1) 122 j := by
    rw [(r3_rel h ht).2.2.2.1 122 (by omega) (by omega) (by omega)]
    exact R_mono h len hj (Nat.le_refl _)
  unfold LNK
  rw [e122]
  have mo := cF_mono (t := t) h (j := j + 1) len hj (Nat.le_refl _)
  rcases cam (t := t) h hj with ⟨q1, q2, _⟩ | ⟨q1, q2⟩
  · exact Or.inl ⟨q1, q2⟩
  · have ec := s3_cam (t := t) h (j := j + 1) (c := cV (cF σ t j)) hj (by omega)
    refine Or.inr ⟨q1, ?_⟩
    show (s3F σ t len 23 (cV (cF σ t j)) = 1 ∧ _) ∨ (s3F σ t len 23 (cV (cF σ t j)) = nI 2 ∧ _) ∨ (s3F σ t len 23 (cV (cF σ t j)) = 0 ∧ ∃ v, v < _ ∧ s3F σ t len 24 (cV (cF σ t j)) = nI v ∧ _)
    rw [ec.1, ec.2]
    rcases q2 with ⟨_, p1, _, p3, _⟩ | ⟨_, p1, p2, _⟩ | ⟨_, _, p1, p2, p3, _, p5, _⟩
    · exact Or.inl ⟨p1, p3⟩
    · exact Or.inr (Or.inl ⟨p1, p2⟩)
    · exact Or.inr (Or.inr ⟨p1, _, by have := mo.1; omega, p2, p3⟩)
theorem k3 (h : REC σ ρ len k op) {j : Nat} (hj : j ≤ len) : ∀ i, i < cV (cF σ t j) → s3F σ t len 23 i = 0 ∨ s3F σ t len 23 i = 1 ∨ s3F σ t len 23 i = nI 2 := by
  intro i hi
  obtain ⟨j', h1, h2, h3⟩ := cam3 h j hj i hi
  have ec := s3_cam (t := t) h (j := j' + 1) (c := i) (by omega) (by omega)
  rw [ec.1]
  rcases cam (t := t) h (show j' < len by omega) with ⟨q1, _⟩ | ⟨q1, q2⟩
  · omega
  · rw [h2] at q2
    rcases q2 with ⟨_, p1, _⟩ | ⟨_, p1, _⟩ | ⟨_, _, p1, _⟩
    · exact Or.inr (Or.inl p1)
    · exact Or.inr (Or.inr p1)
    · exact Or.inl p1
/-- as many guards came as there are -/
theorem gcnt (h : REC σ ρ len k op) : ∀ j, j ≤ len → cb (gBo (s3F σ t len)) (cV (cF σ t j)) = gV (cF σ t j) (tr t) := by
  intro j
  induction j with
  | zero => intro _; rw [c_zero.1, c_zero.2.2]; rfl
  | succ j ih =>
    intro hj
    have i := ih (by omega)
    rcases cam (t := t) h (show j < len by omega) with ⟨q1, _, q3, _⟩ | ⟨q1, q2⟩
    · rw [q1, q3]; exact i
    · have ec := s3_cam (t := t) h (j := j + 1) (c := cV (cF σ t j)) hj (by omega)
      rw [q1, cb_s, i]
      rcases q2 with ⟨_, p1, _, _, p5, _⟩ | ⟨_, p1, _, p4, _⟩ | ⟨_, _, p1, _, _, p5, _⟩
      · rw [p5, show gBo (s3F σ t len) (cV (cF σ t j)) = true from decide_eq_true (by rw [ec.1]; exact p1)]; rfl
      · rw [p4, show gBo (s3F σ t len) (cV (cF σ t j)) = false from decide_eq_false (by rw [ec.1, p1]; decide)]; rfl
      · rw [p5, show gBo (s3F σ t len) (cV (cF σ t j)) = false from decide_eq_false (by rw [ec.1, p1]; decide)]; rfl
end
