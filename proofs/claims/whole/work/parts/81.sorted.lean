/-! PART 81: sortOut and keep: what comes into head and body -/
def cb (f : Nat → Bool) : Nat → Nat
  | 0 => 0
  | i + 1 => cb f i + (if f i then 1 else 0)
theorem cb_le (f : Nat → Bool) : ∀ n, cb f n ≤ n := by
  intro n
  induction n with
  | zero => exact Nat.le_refl 0
  | succ n ih => unfold cb; split <;> omega
theorem cb_mono (f : Nat → Bool) {i n : Nat} (h : i ≤ n) : cb f i ≤ cb f n := by
  induction n with
  | zero => rw [show i = 0 by omega]; exact Nat.le_refl _
  | succ n ih =>
    by_cases hi : i = n + 1
    · rw [hi]; exact Nat.le_refl _
    · have := ih (by omega)
      have e : cb f (n + 1) = cb f n + (if f n then 1 else 0) := rfl
      omega
theorem cb_lt {f : Nat → Bool} {i n : Nat} (h : i < n) (hf : f i = true) : cb f i < cb f n := by
  have a : cb f (i + 1) = cb f i + 1 := by
    show cb f i + (if f i then 1 else 0) = _
    rw [hf]; rfl
  have b := cb_mono f (i := i + 1) (n := n) h
  omega
theorem cb_ex {f : Nat → Bool} : ∀ n h, h < cb f n → ∃ i, i < n ∧ f i = true ∧ cb f i = h := by
  intro n
  induction n with
  | zero => intro h hh; exact absurd hh (Nat.not_lt_zero _)
  | succ n ih =>
    intro h hh
    by_cases hl : h < cb f n
    · obtain ⟨i, h1, h2⟩ := ih h hl
      exact ⟨i, by omega, h2⟩
    · have e : cb f (n + 1) = cb f n + (if f n then 1 else 0) := rfl
      rw [e] at hh
      by_cases hf : f n = true
      · rw [hf] at hh
        simp only [if_true] at hh
        exact ⟨n, by omega, hf, by omega⟩
      · rw [if_neg hf] at hh
        omega
def bBo (σ : Nat → Nat → Int32) (i : Nat) : Bool := decide (¬ σ 23 i = 0 ∨ (¬ σ 25 (tN (σ 24 i)) = 0 ∧ σ 26 (tN (σ 24 i)) = 0))
def hBo (σ : Nat → Nat → Int32) (i : Nat) : Bool := decide (σ 23 i = 0 ∧ ¬ σ 25 (tN (σ 24 i)) = 0 ∧ ¬ σ 26 (tN (σ 24 i)) = 0)
def pBo (σ : Nat → Nat → Int32) (i : Nat) : Bool := decide (σ 23 i = 0 ∧ ¬ σ 25 (tN (σ 24 i)) = 0 ∧ σ 26 (tN (σ 24 i)) = 0)
def gBo (σ : Nat → Nat → Int32) (i : Nat) : Bool := decide (σ 23 i = 1)
def oBo (σ : Nat → Nat → Int32) (i : Nat) : Bool := decide (σ 23 i = nI 2)
/-- the state after v of what came -/
def SOI (s0 : Nat → Nat → Int32) (T v : Nat) (σ : Nat → Nat → Int32) : Prop :=
  σ T 9 = nI (cb (bBo s0) v) ∧ σ T 4 = nI (cb (hBo s0) v) ∧ σ T 5 = nI (cb (oBo s0) v) ∧
  (∀ i, i < v → bBo s0 i = true → σ (T + 14) (cb (bBo s0) i) = s0 23 i ∧ σ (T + 15) (cb (bBo s0) i) = s0 24 i) ∧
  (∀ i, i < v → hBo s0 i = true → σ (T + 13) (cb (hBo s0) i) = s0 24 i) ∧
  (∀ b, b ≠ T → b ≠ T + 13 → b ≠ T + 14 → b ≠ T + 15 → σ b = s0 b) ∧ ∀ x, x ≠ 4 → x ≠ 5 → x ≠ 9 → σ T x = s0 T x
section
variable {s0 σ : Nat → Nat → Int32} {T v : Nat}
theorem pbS_r {x y : Int32} : (∀ b, b ≠ T → b ≠ T + 14 → b ≠ T + 15 → pbS σ T x y b = σ b) ∧ pbS σ T x y (T + 14) = va_up (σ (T + 14)) (tN (σ T 9)) x ∧ pbS σ T x y (T + 15) = va_up (σ (T + 15)) (tN (σ T 9)) y ∧ pbS σ T x y T 9 = nI (tN (σ T 9) + 1) ∧ pbS σ T x y T 5 = (if x = nI 2 then σ T 5 + 1 else σ T 5) ∧ ∀ j, j ≠ 5 → j ≠ 9 → pbS σ T x y T j = σ T j := by
  unfold pbS
  by_cases hx : x = nI 2
  · rw [if_pos hx, if_pos hx]
    refine ⟨fun b h1 h2 h3 => by rw [z_up_ne _ _ _ h1, z_up_ne _ _ _ h1, z_up_ne _ _ _ h3, z_up_ne _ _ _ h2], ?_, ?_, ?_, ?_, fun j h1 h2 => ?_⟩
    · rw [z_up_ne _ _ _ (by omega), z_up_ne _ _ _ (by omega), z_up_ne _ _ _ (by omega), z_up_row]
    · rw [z_up_ne _ _ _ (by omega), z_up_ne _ _ _ (by omega), z_up_row, z_up_ne _ _ _ (by omega)]
    · rw [z_up_o _ _ (by omega), z_up_s]
    · rw [z_up_s]
    · rw [z_up_o _ _ (by omega), z_up_o _ _ (by omega), z_up_ne _ _ _ (by omega), z_up_ne _ _ _ (by omega)]
  · rw [if_neg hx, if_neg hx]
    refine ⟨fun b h1 h2 h3 => by rw [z_up_ne _ _ _ h1, z_up_ne _ _ _ h3, z_up_ne _ _ _ h2], ?_, ?_, ?_, ?_, fun j h1 h2 => ?_⟩
    · rw [z_up_ne _ _ _ (by omega), z_up_ne _ _ _ (by omega), z_up_row]
    · rw [z_up_ne _ _ _ (by omega), z_up_row, z_up_ne _ _ _ (by omega)]
    · rw [z_up_s]
    · rw [z_up_o _ _ (by omega), z_up_ne _ _ _ (by omega), z_up_ne _ _ _ (by omega)]
    · rw [z_up_o _ _ (by omega), z_up_ne _ _ _ (by omega), z_up_ne _ _ _ (by omega)]
theorem phS_r {x : Int32} : (∀ b, b ≠ T → b ≠ T + 13 → phS σ T x b = σ b) ∧ phS σ T x (T + 13) = va_up (σ (T + 13)) (tN (σ T 4)) x ∧ phS σ T x T 4 = nI (tN (σ T 4) + 1) ∧ ∀ j, j ≠ 4 → phS σ T x T j = σ T j := by
  unfold phS
  refine ⟨fun b h1 h2 => by rw [z_up_ne _ _ _ h1, z_up_ne _ _ _ h2], ?_, ?_, fun j h1 => ?_⟩
  · rw [z_up_ne _ _ _ (by omega), z_up_row]
  · rw [z_up_s]
  · rw [z_up_o _ _ (by omega), z_up_ne _ _ _ (by omega)]
theorem cb_s (f : Nat → Bool) (v : Nat) : cb f (v + 1) = cb f v + (if f v then 1 else 0) := rfl
theorem SOI.body (hT : 28 ≤ T) (hv : v < 30) (h : SOI s0 T v σ) (hb : bBo s0 v = true) : SOI s0 T (v + 1) (pbS σ T (s0 23 v) (s0 24 v)) := by
  obtain ⟨h1, h2, h3, h4, h5, h6, h7⟩ := h
  obtain ⟨p1, p2, p3, p4, p5, p6⟩ := @pbS_r σ T (s0 23 v) (s0 24 v)
  have lb := cb_le (bBo s0) v
  have lo := cb_le (oBo s0) v
  have e9 : tN (σ T 9) = cb (bBo s0) v := by rw [h1, tN_nI (by omega)]
  have hh : hBo s0 v = false := by
    unfold bBo at hb
    unfold hBo
    simp only [decide_eq_true_eq, decide_eq_false_iff_not] at hb ⊢
    rintro ⟨q1, q2, q3⟩
    rcases hb with hb | hb
    · exact hb q1
    · exact q3 hb.2
  refine ⟨?_, ?_, ?_, fun i hi hf => ?_, fun i hi hf => ?_, fun b a1 a2 a3 a4 => ?_, fun x a1 a2 a3 => ?_⟩
  · rw [p4, e9, cb_s, hb]; rfl
  · rw [p6 _ (by omega) (by omega), h2, cb_s, hh]; rfl
  · rw [p5, cb_s, h3]
    by_cases hk : s0 23 v = nI 2
    · rw [if_pos hk, show oBo s0 v = true from decide_eq_true hk, nI_1]; rfl
    · rw [if_neg hk, show oBo s0 v = false from decide_eq_false hk]; rfl
  · rw [p2, p3, e9, upE, upE]
    by_cases hiv : i = v
    · rw [hiv, if_pos rfl, if_pos rfl]; exact ⟨rfl, rfl⟩
    · have := cb_lt (f := bBo s0) (i := i) (n := v) (by omega) hf
      rw [if_neg (by omega), if_neg (by omega)]
      exact h4 i (by omega) hf
  · rw [p1 _ (by omega) (by omega) (by omega)]
    by_cases hiv : i = v
    · rw [hiv, hh] at hf; exact absurd hf (by decide)
    · exact h5 i (by omega) hf
  · rw [p1 _ a1 a3 a4]; exact h6 b a1 a2 a3 a4
  · rw [p6 _ a2 a3]; exact h7 x a1 a2 a3
theorem SOI.head (hT : 28 ≤ T) (hv : v < 30) (h : SOI s0 T v σ) (hh : hBo s0 v = true) : SOI s0 T (v + 1) (phS σ T (s0 24 v)) := by
  obtain ⟨h1, h2, h3, h4, h5, h6, h7⟩ := h
  obtain ⟨p1, p2, p3, p4⟩ := @phS_r σ T (s0 24 v)
  have lb := cb_le (hBo s0) v
  have e4 : tN (σ T 4) = cb (hBo s0) v := by rw [h2, tN_nI (by omega)]
  have hq : s0 23 v = 0 ∧ ¬ s0 25 (tN (s0 24 v)) = 0 ∧ ¬ s0 26 (tN (s0 24 v)) = 0 := of_decide_eq_true hh
  have hb : bBo s0 v = false := decide_eq_false (fun q => q.elim (fun q => q hq.1) (fun q => hq.2.2 q.2))
  have ho : oBo s0 v = false := decide_eq_false (fun q => by rw [hq.1] at q; exact absurd q (by decide))
  refine ⟨?_, ?_, ?_, fun i hi hf => ?_, fun i hi hf => ?_, fun b a1 a2 a3 a4 => ?_, fun x a1 a2 a3 => ?_⟩
  · rw [p4 _ (by omega), h1, cb_s, hb]; rfl
  · rw [p3, e4, cb_s, hh]; rfl
  · rw [p4 _ (by omega), h3, cb_s, ho]; rfl
  · rw [p1 _ (by omega) (by omega), p1 _ (by omega) (by omega)]
    by_cases hiv : i = v
    · rw [hiv, hb] at hf; exact absurd hf (by decide)
    · exact h4 i (by omega) hf
  · rw [p2, e4, upE]
    by_cases hiv : i = v
    · rw [hiv, if_pos rfl]
    · have := cb_lt (f := hBo s0) (i := i) (n := v) (by omega) hf
      rw [if_neg (by omega)]
      exact h5 i (by omega) hf
  · rw [p1 _ a1 a2]; exact h6 b a1 a2 a3 a4
  · rw [p4 _ a1]; exact h7 x a1 a2 a3
theorem SOI.none (h : SOI s0 T v σ) (h1 : bBo s0 v = false) (h2 : hBo s0 v = false) (h3 : oBo s0 v = false) : SOI s0 T (v + 1) σ := by
  obtain ⟨g1, g2, g3, g4, g5, g6, g7⟩ := h
  refine ⟨?_, ?_, ?_, fun i hi hf => ?_, fun i hi hf => ?_, g6, g7⟩
  · rw [g1, cb_s, h1]; rfl
  · rw [g2, cb_s, h2]; rfl
  · rw [g3, cb_s, h3]; rfl
  · by_cases hiv : i = v
    · rw [hiv, h1] at hf; exact absurd hf (by decide)
    · exact g4 i (by omega) hf
  · by_cases hiv : i = v
    · rw [hiv, h2] at hf; exact absurd hf (by decide)
    · exact g5 i (by omega) hf
theorem SOI.step (hT : 28 ≤ T) (hv : v < 30) (h : SOI s0 T v σ) : SOI s0 T (v + 1) (soT σ T v) := by
  have e : ∀ b, b < 28 → σ b = s0 b := fun b hb => h.2.2.2.2.2.1 b (by omega) (by omega) (by omega) (by omega)
  unfold soT
  rw [e 23 (by omega), e 24 (by omega), e 25 (by omega), e 26 (by omega)]
  by_cases h23 : s0 23 v = 0
  · rw [if_neg (fun q => q h23)]
    by_cases h25 : s0 25 (tN (s0 24 v)) = 0
    · rw [if_pos h25]
      exact h.none (decide_eq_false (fun q => q.elim (fun q => q h23) (fun q => q.1 h25))) (decide_eq_false (fun q => q.2.1 h25)) (decide_eq_false (fun q => by rw [h23] at q; exact absurd q (by decide)))
    · rw [if_neg h25]
      by_cases h26 : s0 26 (tN (s0 24 v)) = 0
      · rw [if_pos h26]; exact h.body hT hv (decide_eq_true (Or.inr ⟨h25, h26⟩))
      · rw [if_neg h26]; exact h.head hT hv (decide_eq_true ⟨h23, h25, h26⟩)
  · rw [if_pos h23]; exact h.body hT hv (decide_eq_true (Or.inl h23))
theorem soS_ok (hT : 28 ≤ T) : ∀ (m v : Nat) (σ : Nat → Nat → Int32), v + m ≤ 30 → SOI s0 T v σ → SOI s0 T (v + m) (soS T m v σ) := by
  intro m
  induction m with
  | zero => intro v σ _ h; exact h
  | succ m ih =>
    intro v σ hv h
    have := ih (v + 1) (soT σ T v) (by omega) (h.step hT (by omega))
    rw [show v + (m + 1) = v + 1 + m by omega]
    exact this
theorem SOI_0 (h9 : s0 T 9 = 0) (h4 : s0 T 4 = 0) (h5 : s0 T 5 = 0) : SOI s0 T 0 s0 :=
  ⟨by rw [h9]; rfl, by rw [h4]; rfl, by rw [h5]; rfl, fun i hi => absurd hi (by omega), fun i hi => absurd hi (by omega), fun _ _ _ _ _ => rfl, fun _ _ _ _ => rfl⟩
end
/-- the body is made of operations, guards and outs -/
theorem cb_sum {s0 : Nat → Nat → Int32} : ∀ c, (∀ i, i < c → s0 23 i = 0 ∨ s0 23 i = 1 ∨ s0 23 i = nI 2) → cb (bBo s0) c = cb (pBo s0) c + cb (gBo s0) c + cb (oBo s0) c := by
  intro c
  induction c with
  | zero => intro _; rfl
  | succ c ih =>
    intro h
    rw [cb_s, cb_s, cb_s, cb_s, ih (fun i hi => h i (by omega))]
    have : (if bBo s0 c = true then 1 else 0) = (if pBo s0 c = true then 1 else 0) + (if gBo s0 c = true then 1 else 0) + (if oBo s0 c = true then 1 else 0) := by
      unfold bBo pBo gBo oBo
      simp only [decide_eq_true_eq]
      rcases h c (by omega) with q | q | q
      · rw [q]
        have a : ¬ (0 : Int32) = 1 := by decide
        have b : ¬ (0 : Int32) = nI 2 := by decide
        simp [a, b]
      · rw [q]
        have a : ¬ (1 : Int32) = nI 2 := by decide
        simp [a]
      · rw [q]
        have a : ¬ nI 2 = (1 : Int32) := by decide
        have b : ¬ nI 2 = (0 : Int32) := by decide
        simp [a, b]
    omega
/-- what came at the j-th instruction, in both makers -/
def LNK (s0 ρ : Nat → Nat → Int32) (n : Nat) (C : Nat → Nat) (j : Nat) : Prop :=
  (C (j + 1) = C j ∧ ρ 122 j = 0) ∨ (C (j + 1) = C j + 1 ∧ ((s0 23 (C j) = 1 ∧ ρ 122 j = 1) ∨ (s0 23 (C j) = nI 2 ∧ ρ 122 j = nI 2) ∨ (s0 23 (C j) = 0 ∧ ∃ v, v < n ∧ s0 24 (C j) = nI v ∧ ρ 122 j = -3 - nI v)))
def KPP (s0 r0 : Nat → Nat → Int32) (t : Nat) (C : Nat → Nat) (j : Nat) (ρ : Nat → Nat → Int32) : Prop :=
  ρ 108 t = nI (cb (hBo s0) (C j)) ∧ ρ 109 t = nI (cb (pBo s0) (C j)) ∧ ρ 110 t = nI (cb (gBo s0) (C j)) ∧ ρ 111 t = nI (cb (oBo s0) (C j)) ∧
  (∀ i, i < j → ρ 105 (30 * t + i) = r0 101 i ∧ ρ 106 (30 * t + i) = r0 102 i ∧ ρ 107 (30 * t + i) = nI (cb (bBo s0) (C (i + 1)))) ∧
  (∀ b, ¬ (105 ≤ b ∧ b ≤ 111) → ρ b = r0 b) ∧ (∀ b x, 108 ≤ b → b ≤ 111 → x ≠ t → ρ b x = r0 b x) ∧ ∀ b x, 105 ≤ b → b ≤ 107 → ¬ (30 * t ≤ x ∧ x < 30 * t + j) → ρ b x = r0 b x
theorem nI_add2 (a b : Nat) : nI a + nI b = nI (a + b) := by
  unfold nI; exact (Int32.ofNat_add a b).symm
theorem b2N (P : Prop) [Decidable P] (f : Bool) (h : P ↔ f = true) : b2i P = nI (if f then 1 else 0) := by
  unfold b2i
  by_cases hp : P
  · rw [if_pos hp, if_pos (h.mp hp)]; rfl
  · rw [if_neg hp, if_neg (fun q => hp (h.mpr q))]; rfl
section
variable {s0 r0 ρ : Nat → Nat → Int32} {n t j len : Nat} {C : Nat → Nat}
theorem lnk_num (hn : n ≤ 40) (h : LNK s0 ρ n C j) (hd : ∀ v, v < n → s0 25 v = ρ 117 v) (hc : ∀ v, v < n → s0 26 v = ρ 118 v) :
    nI (cb (hBo s0) (C j)) + kHI ρ j = nI (cb (hBo s0) (C (j + 1))) ∧ nI (cb (pBo s0) (C j)) + kBI ρ j = nI (cb (pBo s0) (C (j + 1))) ∧ nI (cb (gBo s0) (C j)) + kGI ρ j = nI (cb (gBo s0) (C (j + 1))) ∧ nI (cb (oBo s0) (C j)) + kOI ρ j = nI (cb (oBo s0) (C (j + 1))) := by
  unfold kHI kBI kGI kOI
  rcases h with ⟨h1, h2⟩ | ⟨h1, h2⟩
  · rw [h1, h2, b2i_f (fun q => absurd q.1 (by decide)), b2i_f (fun q => absurd q.1 (by decide)), b2i_f (by decide), b2i_f (by decide)]
    simp
  · rw [h1, cb_s, cb_s, cb_s, cb_s, ← nI_add2, ← nI_add2, ← nI_add2, ← nI_add2]
    refine ⟨congrArg _ (b2N _ _ ?_), congrArg _ (b2N _ _ ?_), congrArg _ (b2N _ _ ?_), congrArg _ (b2N _ _ ?_)⟩
    all_goals (simp only [hBo, pBo, gBo, oBo, decide_eq_true_eq])
    all_goals (rcases h2 with ⟨q1, q2⟩ | ⟨q1, q2⟩ | ⟨q1, v, hv, q2, q3⟩)
    all_goals (try (first | (rw [q1, q2]; done) | (rw [q1, q2]; decide) | (rw [q1, q2]; constructor <;> (intro q; exact absurd q.1 (by decide)))))
    · rw [q1, q2, q3, m3_eq v (by omega), tN_nI (by omega), hd v hv, hc v hv]
      exact ⟨fun q => ⟨rfl, q.2⟩, fun q => ⟨m3_lt v (by omega), q.2⟩⟩
    · rw [q1, q2, q3, m3_eq v (by omega), tN_nI (by omega), hd v hv, hc v hv]
      exact ⟨fun q => ⟨rfl, q.2⟩, fun q => ⟨m3_lt v (by omega), q.2⟩⟩
    · rw [q1, q3]
      have := m3_lt v (by omega)
      exact ⟨fun q => by rw [q] at this; exact absurd this (by decide), fun q => absurd q (by decide)⟩
    · rw [q1, q3]
      have := m3_lt v (by omega)
      exact ⟨fun q => by rw [q] at this; exact absurd this (by decide), fun q => absurd q (by decide)⟩
theorem KPP.step (ht : t < 4) (hj : j < 30) (hn : n ≤ 40) (h : KPP s0 r0 t C j ρ) (hl : LNK s0 r0 n C j) (hd : ∀ v, v < n → s0 25 v = r0 117 v) (hc : ∀ v, v < n → s0 26 v = r0 118 v) (hs : cb (bBo s0) (C (j + 1)) = cb (pBo s0) (C (j + 1)) + cb (gBo s0) (C (j + 1)) + cb (oBo s0) (C (j + 1))) : KPP s0 r0 t C (j + 1) (kpT ρ t j) := by
  obtain ⟨h1, h2, h3, h4, h5, h6, h7, h8⟩ := h
  have hk : LNK s0 ρ n C j := by unfold LNK at hl ⊢; rw [h6 122 (by omega)]; exact hl
  obtain ⟨a1, a2, a3, a4⟩ := lnk_num hn hk (by rw [h6 117 (by omega)]; exact hd) (by rw [h6 118 (by omega)]; exact hc)
  have r108 : kpT ρ t j 108 = va_up (ρ 108) t (ρ 108 t + kHI ρ j) := by
    unfold kpT
    rw [z_up_ne _ _ _ (by omega), z_up_ne _ _ _ (by omega), z_up_ne _ _ _ (by omega), z_up_ne _ _ _ (by omega), z_up_ne _ _ _ (by omega), z_up_ne _ _ _ (by omega), z_up_row]
  have r109 : kpT ρ t j 109 = va_up (ρ 109) t (ρ 109 t + kBI ρ j) := by
    unfold kpT
    rw [z_up_ne _ _ _ (by omega), z_up_ne _ _ _ (by omega), z_up_ne _ _ _ (by omega), z_up_ne _ _ _ (by omega), z_up_ne _ _ _ (by omega), z_up_row, z_up_ne _ _ _ (by omega)]
  have r110 : kpT ρ t j 110 = va_up (ρ 110) t (ρ 110 t + kGI ρ j) := by
    unfold kpT
    rw [z_up_ne _ _ _ (by omega), z_up_ne _ _ _ (by omega), z_up_ne _ _ _ (by omega), z_up_ne _ _ _ (by omega), z_up_row, z_up_ne _ _ _ (by omega), z_up_ne _ _ _ (by omega)]
  have r111 : kpT ρ t j 111 = va_up (ρ 111) t (ρ 111 t + kOI ρ j) := by
    unfold kpT
    rw [z_up_ne _ _ _ (by omega), z_up_ne _ _ _ (by omega), z_up_ne _ _ _ (by omega), z_up_row, z_up_ne _ _ _ (by omega), z_up_ne _ _ _ (by omega), z_up_ne _ _ _ (by omega)]
  have r105 : kpT ρ t j 105 = va_up (ρ 105) (30 * t + j) (ρ 101 j) := by
    unfold kpT
    rw [z_up_ne _ _ _ (by omega), z_up_ne _ _ _ (by omega), z_up_row, z_up_ne _ _ _ (by omega), z_up_ne _ _ _ (by omega), z_up_ne _ _ _ (by omega), z_up_ne _ _ _ (by omega)]
  have r106 : kpT ρ t j 106 = va_up (ρ 106) (30 * t + j) (ρ 102 j) := by
    unfold kpT
    rw [z_up_ne _ _ _ (by omega), z_up_row, z_up_ne _ _ _ (by omega), z_up_ne _ _ _ (by omega), z_up_ne _ _ _ (by omega), z_up_ne _ _ _ (by omega), z_up_ne _ _ _ (by omega)]
  have r107 : kpT ρ t j 107 = va_up (ρ 107) (30 * t + j) (ρ 109 t + kBI ρ j + (ρ 110 t + kGI ρ j) + (ρ 111 t + kOI ρ j)) := by
    unfold kpT
    rw [z_up_row, z_up_ne _ _ _ (by omega), z_up_ne _ _ _ (by omega), z_up_ne _ _ _ (by omega), z_up_ne _ _ _ (by omega), z_up_ne _ _ _ (by omega), z_up_ne _ _ _ (by omega)]
  refine ⟨?_, ?_, ?_, ?_, fun i hi => ?_, fun b hb => ?_, fun b x b1 b2 hx => ?_, fun b x b1 b2 hx => ?_⟩
  · rw [r108, upE, if_pos rfl, h1, a1]
  · rw [r109, upE, if_pos rfl, h2, a2]
  · rw [r110, upE, if_pos rfl, h3, a3]
  · rw [r111, upE, if_pos rfl, h4, a4]
  · rw [r105, r106, r107, upE, upE, upE]
    by_cases hij : i = j
    · subst hij
      rw [if_pos rfl, if_pos rfl, if_pos rfl, h2, h3, h4, a2, a3, a4, nI_add2, nI_add2, hs, h6 101 (by omega), h6 102 (by omega)]
      exact ⟨rfl, rfl, rfl⟩
    · rw [if_neg (by omega), if_neg (by omega), if_neg (by omega)]
      exact h5 i (by omega)
  · rw [kpT_ne hb]; exact h6 b hb
  · have : b = 108 ∨ b = 109 ∨ b = 110 ∨ b = 111 := by omega
    rcases this with rfl | rfl | rfl | rfl
    · rw [r108, upE, if_neg hx]; exact h7 _ x b1 b2 hx
    · rw [r109, upE, if_neg hx]; exact h7 _ x b1 b2 hx
    · rw [r110, upE, if_neg hx]; exact h7 _ x b1 b2 hx
    · rw [r111, upE, if_neg hx]; exact h7 _ x b1 b2 hx
  · have : b = 105 ∨ b = 106 ∨ b = 107 := by omega
    rcases this with rfl | rfl | rfl
    · rw [r105, upE, if_neg (by omega)]; exact h8 _ x b1 b2 (by omega)
    · rw [r106, upE, if_neg (by omega)]; exact h8 _ x b1 b2 (by omega)
    · rw [r107, upE, if_neg (by omega)]; exact h8 _ x b1 b2 (by omega)
theorem kpF_ok (ht : t < 4) (hn : n ≤ 40) (hd : ∀ v, v < n → s0 25 v = r0 117 v) (hc : ∀ v, v < n → s0 26 v = r0 118 v) (hl : ∀ j, j < len → LNK s0 r0 n C j) (hs : ∀ j, j < len → cb (bBo s0) (C (j + 1)) = cb (pBo s0) (C (j + 1)) + cb (gBo s0) (C (j + 1)) + cb (oBo s0) (C (j + 1))) (h30 : len ≤ 30) : ∀ (m j : Nat) (ρ : Nat → Nat → Int32), j + m = len → KPP s0 r0 t C j ρ → KPP s0 r0 t C len (kpF t m j ρ) := by
  intro m
  induction m with
  | zero => intro j ρ hj h; rw [← show j = len by omega]; exact h
  | succ m ih =>
    intro j ρ hj h
    exact ih (j + 1) (kpT ρ t j) (by omega) (h.step ht (by omega) hn (hl j (by omega)) hd hc (hs j (by omega)))
theorem KPP_0 (hC : C 0 = 0) : KPP s0 r0 t C 0 (kp0 r0 t) := by
  unfold kp0
  refine ⟨?_, ?_, ?_, ?_, fun i hi => absurd hi (by omega), fun b hb => ?_, fun b x b1 b2 hx => ?_, fun b x b1 b2 hx => ?_⟩
  · rw [z_up_ne _ _ _ (by omega), z_up_ne _ _ _ (by omega), z_up_ne _ _ _ (by omega), z_up_s, hC]; rfl
  · rw [z_up_ne _ _ _ (by omega), z_up_ne _ _ _ (by omega), z_up_s, hC]; rfl
  · rw [z_up_ne _ _ _ (by omega), z_up_s, hC]; rfl
  · rw [z_up_s, hC]; rfl
  · rw [z_up_ne _ _ _ (by omega), z_up_ne _ _ _ (by omega), z_up_ne _ _ _ (by omega), z_up_ne _ _ _ (by omega)]
  · rw [z_up_o _ _ (Or.inr hx), z_up_o _ _ (Or.inr hx), z_up_o _ _ (Or.inr hx), z_up_o _ _ (Or.inr hx)]
  · rw [z_up_ne _ _ _ (by omega), z_up_ne _ _ _ (by omega), z_up_ne _ _ _ (by omega), z_up_ne _ _ _ (by omega)]
end
