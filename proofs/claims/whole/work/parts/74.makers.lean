/-! PART 74: the two makers go on side by side -/
/-- value v: kind, left, right, result in the class; kind, what, first, second in the reference -/
def VVx (v : Nat) (k l r z k' w a' b' : Int32) : Prop :=
  (v < 6 ∧ k = 1 ∧ l = nI v ∧ r = 0 ∧ k' = 1 ∧ w = nI v ∧ a' = 0 ∧ b' = 0) ∨
  (6 ≤ v ∧ k = 0 ∧ r = 0 ∧ k' = 0 ∧ w = l ∧ a' = 0 ∧ b' = 0 ∧ z = l) ∨
  (6 ≤ v ∧ ∃ op a b, 3 ≤ op ∧ op ≤ 8 ∧ a < v ∧ b < v ∧ k = nI op ∧ l = nI a ∧ r = nI b ∧ k' = nI 2 ∧ w = nI op ∧ a' = nI a ∧ b' = nI b)
def VV (σ ρ : Nat → Nat → Int32) (T v : Nat) : Prop := VVx v (σ (T + 2) v) (σ (T + 3) v) (σ (T + 4) v) (σ (T + 5) v) (ρ 113 v) (ρ 114 v) (ρ 115 v) (ρ 116 v)
def MV (σ ρ : Nat → Nat → Int32) (T n : Nat) : Prop := σ (T + 1) 4 = nI n ∧ ρ 92 35 = nI n ∧ 6 ≤ n ∧ ∀ v, v < n → VV σ ρ T v
theorem MV.to {σ ρ σ' ρ' : Nat → Nat → Int32} {T n : Nat} (h : MV σ ρ T n) (h1 : σ' (T + 1) 4 = σ (T + 1) 4) (hs : ∀ i, 2 ≤ i → i ≤ 5 → σ' (T + i) = σ (T + i)) (h2 : ρ' 92 35 = ρ 92 35) (hr : ∀ i, 113 ≤ i → i ≤ 116 → ρ' i = ρ i) : MV σ' ρ' T n := by
  refine ⟨h1.trans h.1, h2.trans h.2.1, h.2.2.1, fun v hv => ?_⟩
  have := h.2.2.2 v hv
  unfold VV at this ⊢
  rw [hs 2 (by omega) (by omega), hs 3 (by omega) (by omega), hs 4 (by omega) (by omega), hs 5 (by omega) (by omega), hr 113 (by omega) (by omega), hr 114 (by omega) (by omega), hr 115 (by omega) (by omega), hr 116 (by omega) (by omega)]
  exact this
theorem fnd_congr {P Q : Nat → Bool} : ∀ (n : Nat), (∀ j, j < n → P j = Q j) → fnd P n = fnd Q n := by
  intro n
  induction n with
  | zero => intro _; rfl
  | succ n ih =>
    intro h
    unfold fnd
    rw [ih (fun j hj => h j (by omega)), h n (by omega)]
theorem MV.share {σ ρ : Nat → Nat → Int32} {T n : Nat} {k l r k' w a b : Int32} (h : MV σ ρ T n) (hq : ∀ v, v < n → (mt σ T v k l r ↔ (ρ 113 v = k' ∧ ρ 114 v = w ∧ ρ 115 v = a ∧ ρ 116 v = b))) (hn : VVx n k l r (if k = 0 then l else 0) k' w a b) :
    vlI ρ n k' w a b = shI σ T n k l r ∧ ((shI σ T n k l r < n ∧ shS σ T n k l r = σ ∧ vlS ρ n k' w a b = ρ ∧ mt σ T (shI σ T n k l r) k l r) ∨ (shI σ T n k l r = n ∧ shS σ T n k l r = shr σ T n k l r ∧ vlS ρ n k' w a b = vlN ρ n k' w a b ∧ MV (shr σ T n k l r) (vlN ρ n k' w a b) T (n + 1))) := by
  have he : vlI ρ n k' w a b = shI σ T n k l r := by
    unfold vlI shI
    refine fnd_congr n fun v hv => ?_
    have := hq v hv
    rw [← mtB_iff, ← vtB_iff] at this
    cases h1 : mtB σ T k l r v <;> cases h2 : vtB ρ k' w a b v <;> simp_all
  refine ⟨he, ?_⟩
  unfold shS vlS
  rw [he]
  by_cases hc : shI σ T n k l r < n
  · rw [if_pos hc, if_pos hc]
    exact Or.inl ⟨hc, rfl, rfl, mtB_iff.mp ((fnd_spec _ n).1 hc)⟩
  · rw [if_neg hc, if_neg hc]
    have hle : shI σ T n k l r ≤ n := fnd_le _ n
    refine Or.inr ⟨by omega, rfl, rfl, shr_1, ?_, by have := h.2.2.1; omega, fun v hv => ?_⟩
    · rw [vlN_92, if_pos rfl]
    · unfold VV
      obtain ⟨r1, r2, r3, r4, _, _, _⟩ := @vlN_r ρ n k' w a b
      rw [shr_2, shr_3, shr_4, shr_5, r1, r2, r3, r4]
      simp only [upE]
      by_cases hvn : v = n
      · subst hvn
        simp only [if_true]
        exact hn
      · simp only [if_neg hvn]
        exact h.2.2.2 v (by omega)
theorem nI_ne' {a b : Nat} (h : nI a = nI b) (ha : a < 100) (hb : b < 100) : a = b := nI_inj h (by omega) (by omega)
theorem one_nI : (1 : Int32) = nI 1 := by decide
theorem zero_nI : (0 : Int32) = nI 0 := by decide
theorem MV.q0 {σ ρ : Nat → Nat → Int32} {T n : Nat} (h : MV σ ρ T n) (x : Int32) {v : Nat} (hv : v < n) : mt σ T v 0 x 0 ↔ (ρ 113 v = 0 ∧ ρ 114 v = x ∧ ρ 115 v = 0 ∧ ρ 116 v = 0) := by
  unfold mt
  rcases h.2.2.2 v hv with g | g | g
  · obtain ⟨_, g1, _, _, g4, _⟩ := g
    rw [g1, g4]
    exact ⟨fun q => absurd q.1 (by decide), fun q => absurd q.1 (by decide)⟩
  · obtain ⟨_, g1, g2, g3, g4, g5, g6, _⟩ := g
    rw [g1, g2, g3, g4, g5, g6]
    exact ⟨fun q => ⟨rfl, q.2.1, rfl, rfl⟩, fun q => ⟨rfl, q.2.1, rfl⟩⟩
  · obtain ⟨_, op, a, b, h3, h8, _, _, g1, _, _, g4, _⟩ := g
    rw [g1, g4]
    exact ⟨fun q => absurd q.1 (nI_ne0 (by omega) (by omega)), fun q => absurd q.1 (nI_ne0 (by omega) (by omega))⟩
theorem MV.qo {σ ρ : Nat → Nat → Int32} {T n : Nat} (h : MV σ ρ T n) (h36 : n ≤ 36) {o x y : Nat} (ho : 3 ≤ o) (ho8 : o ≤ 8) (hx : x < 36) (hy : y < 36) {v : Nat} (hv : v < n) : mt σ T v (nI o) (nI x) (nI y) ↔ (ρ 113 v = nI 2 ∧ ρ 114 v = nI o ∧ ρ 115 v = nI x ∧ ρ 116 v = nI y) := by
  unfold mt
  rcases h.2.2.2 v hv with g | g | g
  · obtain ⟨_, g1, _, _, g4, _⟩ := g
    rw [g1, g4, one_nI]
    exact ⟨fun q => absurd (nI_ne' q.1 (by omega) (by omega)) (by omega), fun q => absurd (nI_ne' q.1 (by omega) (by omega)) (by omega)⟩
  · obtain ⟨_, g1, g2, g3, g4, g5, g6, _⟩ := g
    rw [g1, g3, zero_nI]
    exact ⟨fun q => absurd (nI_ne' q.1 (by omega) (by omega)) (by omega), fun q => absurd (nI_ne' q.1 (by omega) (by omega)) (by omega)⟩
  · obtain ⟨_, op, a, b, h3, h8, ha, hb, g1, g2, g3, g4, g5, g6, g7⟩ := g
    rw [g1, g2, g3, g4, g5, g6, g7]
    exact ⟨fun q => ⟨rfl, q.1, q.2.1, q.2.2⟩, fun q => ⟨q.2.1, q.2.2.1, q.2.2.2⟩⟩
/-- the class's kind is 0 just where the reference's is -/
theorem MV.k0 {σ ρ : Nat → Nat → Int32} {T n : Nat} (h : MV σ ρ T n) {v : Nat} (hv : v < n) : (σ (T + 2) v = 0 ↔ ρ 113 v = 0) ∧ (ρ 113 v ≤ 0 ↔ σ (T + 2) v = 0) ∧ (σ (T + 2) v = 0 → ρ 114 v = σ (T + 3) v) := by
  rcases h.2.2.2 v hv with g | g | g
  · obtain ⟨_, g1, _, _, g4, _⟩ := g
    rw [g1, g4]
    exact ⟨by decide, by decide, fun q => absurd q (by decide)⟩
  · obtain ⟨_, g1, g2, g3, g4, g5, g6, _⟩ := g
    rw [g1, g3]
    exact ⟨by decide, by decide, fun _ => g4⟩
  · obtain ⟨_, op, a, b, h3, h8, ha, hb, g1, g2, g3, g4, g5, g6, g7⟩ := g
    rw [g1, g4]
    have e1 : ¬ nI op = 0 := nI_ne0 (by omega) (by omega)
    exact ⟨⟨fun q => absurd q e1, fun q => absurd q (by decide)⟩, ⟨fun q => absurd q (by decide), fun q => absurd q e1⟩, fun q => absurd q e1⟩
def FM (σ ρ : Nat → Nat → Int32) (n e : Nat) : Prop := σ 20 2 = nI e ∧ ρ 92 44 = nI e ∧ e ≤ 6 ∧ (∀ l, l < 6 → σ 21 l = ρ 120 l ∧ ∃ q, q < n ∧ σ 21 l = nI q) ∧ ∀ s, s < e → σ 22 s = ρ 121 s ∧ ∃ q, q < n ∧ σ 22 s = nI q
def CMm (σ : Nat → Nat → Int32) (c j : Nat) : Prop := σ 19 3 = nI c ∧ c ≤ j ∧ ∀ i, i < c → ∃ q, q < 36 ∧ σ 24 i = nI q
def NDm (σ ρ : Nat → Nat → Int32) (n : Nat) : Prop := (∀ v, v < n → σ 25 v = ρ 117 v) ∧ ∀ v, n ≤ v → v < 36 → σ 25 v = 0
def hasG (σ : Nat → Nat → Int32) (T g b : Nat) (y : Int32) : Prop := ∃ i, i < g ∧ σ (T + 7) i = nI b ∧ σ (T + 8) i = y
def GD (σ ρ : Nat → Nat → Int32) (T n g : Nat) : Prop := σ (T + 6) 5 = nI g ∧ (∀ i, i < g → ∃ q, q < n ∧ σ (T + 7) i = nI q) ∧ ∀ b, b < n → (ρ 119 b = 0 ∨ ρ 119 b = 1 ∨ ρ 119 b = nI 2 ∨ ρ 119 b = nI 3) ∧ (¬ ρ 119 b &&& 1 = 0 ↔ hasG σ T g b 0) ∧ (¬ ρ 119 b &&& nI 2 = 0 ↔ hasG σ T g b 1)
def MI (T j : Nat) (σ ρ : Nat → Nat → Int32) (n e g c : Nat) : Prop := MV σ ρ T n ∧ n ≤ 6 + j ∧ FM σ ρ n e ∧ 2 * g + e ≤ j ∧ CMm σ c j ∧ NDm σ ρ n ∧ GD σ ρ T n g
/-- what stays of the maker's state -/
def SOm (T : Nat) (σ σ' : Nat → Nat → Int32) (n n' g g' c c' : Nat) : Prop :=
  n ≤ n' ∧ (∀ i v, 2 ≤ i → i ≤ 5 → v < n → σ' (T + i) v = σ (T + i) v) ∧ g ≤ g' ∧ (∀ i v, 7 ≤ i → i ≤ 10 → v < g → σ' (T + i) v = σ (T + i) v) ∧ (∀ x, x < g * 12 → σ' (T + 11) x = σ (T + 11) x) ∧ c ≤ c' ∧ (∀ i, i < c → σ' 23 i = σ 23 i ∧ σ' 24 i = σ 24 i) ∧ (∀ v, ¬ σ 25 v = 0 → ¬ σ' 25 v = 0) ∧ ∀ b, ¬ (b = 19 ∨ b = 20 ∨ b = 21 ∨ b = 22 ∨ b = 23 ∨ b = 24 ∨ b = 25 ∨ (T + 1 ≤ b ∧ b ≤ T + 11)) → σ' b = σ b
/-- what stays of the reference's -/
def SOr (ρ ρ' : Nat → Nat → Int32) (j : Nat) : Prop := (∀ b, ¬ (b = 92 ∨ (113 ≤ b ∧ b ≤ 122)) → ρ' b = ρ b) ∧ (∀ i, i ≠ 35 → i ≠ 44 → ρ' 92 i = ρ 92 i) ∧ ∀ i, i < j → ρ' 122 i = ρ 122 i
/-- what an instruction adds -/
def SOv (T op p : Nat) (x y w : Int32) (σ σ' : Nat → Nat → Int32) (n n' e g g' c c' : Nat) (R : Int32) : Prop :=
  (op = 0 → ∃ v, v < n' ∧ w = nI v ∧ σ' (T + 2) v = 0 ∧ σ' (T + 3) v = x ∧ c' = c ∧ R = 0 ∧ g' = g ∧ ∀ u, n ≤ u → u < n' → σ' (T + 2) u = 0) ∧
  (3 ≤ op ∧ op ≤ 8 → ∃ a b v, a < n ∧ b < n ∧ σ 22 (e - 2) = nI a ∧ σ 22 (e - 1) = nI b ∧ v < n' ∧ w = nI v ∧ g' = g ∧
    ((σ (T + 2) a = 0 ∧ σ (T + 2) b = 0 ∧ σ' (T + 2) v = 0 ∧ σ' (T + 3) v = wk op (σ (T + 3) a) (σ (T + 3) b) ∧ c' = c ∧ R = 0 ∧ ∀ u, n ≤ u → u < n' → σ' (T + 2) u = 0) ∨
     (σ' (T + 2) v = nI op ∧ σ' (T + 3) v = nI a ∧ σ' (T + 4) v = nI b ∧ ((n' = n ∧ c' = c ∧ R = 0) ∨ (n' = n + 1 ∧ v = n ∧ c' = c + 1 ∧ σ' 23 c = 0 ∧ σ' 24 c = nI n ∧ R = -3 - nI n))))) ∧
  (op = 12 → ∃ b, b < n ∧ σ 22 (e - 1) = nI b ∧ n' = n ∧ g' = g ∧ c' = c + 1 ∧ σ' 23 c = nI 2 ∧ σ' 24 c = nI b ∧ R = nI 2 ∧ ¬ σ' 25 b = 0) ∧
  (op = 14 → ∃ b, b < n ∧ σ 22 (e - 1) = nI b ∧ n' = n ∧ ((c' = c ∧ g' = g ∧ R = 0 ∧ (σ (T + 2) b = 0 ∨ hasG σ T g b y)) ∨
    (c' = c + 1 ∧ g' = g + 1 ∧ R = 1 ∧ σ' 23 c = 1 ∧ σ' 24 c = nI g ∧ ¬ σ (T + 2) b = 0 ∧ σ' (T + 7) g = nI b ∧ σ' (T + 8) g = y ∧ σ' (T + 9) g = (if y = 0 then x else nI (p + 1)) ∧ σ' (T + 10) g = nI (e - 1) ∧
      (∀ l, l < 6 → σ' (T + 11) (g * 12 + l) = σ 21 l) ∧ (∀ s, s < e - 1 → σ' (T + 11) (g * 12 + 6 + s) = σ 22 s) ∧ ¬ σ' 25 b = 0 ∧ (∀ l, l < 6 → ¬ σ' 25 (tN (σ 21 l)) = 0) ∧ ∀ s, s < e - 1 → ¬ σ' 25 (tN (σ 22 s)) = 0))) ∧
  (op = 1 ∨ op = 2 ∨ op = 9 ∨ op = 10 ∨ op = 11 ∨ op = 13 → n' = n ∧ g' = g ∧ c' = c ∧ R = 0)
theorem FM.step {σ ρ σ' ρ' : Nat → Nat → Int32} {n n' e op l : Nat} {w w' : Int32} (h : FM σ ρ n e) (ho : op < 15) (ht : tk op ≤ e) (h6 : e - tk op + gv op ≤ 6) (hl : op = 1 → l < 6) (hn : n ≤ n') (s1 : stp op l w (σ 21) (σ 22) e (σ' 21) (σ' 22) (e - tk op + gv op)) (s2 : stp op l w' (ρ 120) (ρ 121) e (ρ' 120) (ρ' 121) (e - tk op + gv op)) (d1 : σ' 20 2 = nI (e - tk op + gv op)) (d2 : ρ' 92 44 = nI (e - tk op + gv op)) (hw : op = 0 ∨ (3 ≤ op ∧ op ≤ 8) → w = w' ∧ ∃ q, q < n' ∧ w = nI q) : FM σ' ρ' n' (e - tk op + gv op) := by
  have a := stp_rel (f := fun z => z) s1 s2 ht hl (fun i hi => (h.2.2.2.1 i hi).1) (fun s hs => (h.2.2.2.2 s hs).1) (fun q => (hw q).1) (by omega)
  have b := stp_all (P := fun z => ∃ q, q < n' ∧ z = nI q) s1 ht hl (fun i hi => by obtain ⟨q, h1, h2⟩ := (h.2.2.2.1 i hi).2; exact ⟨q, by omega, h2⟩) (fun s hs => by obtain ⟨q, h1, h2⟩ := (h.2.2.2.2 s hs).2; exact ⟨q, by omega, h2⟩) (fun q => (hw q).2) (by omega)
  exact ⟨d1, d2, h6, fun l hl => ⟨a.2.1 l hl, b.1 l hl⟩, fun s hs => ⟨a.2.2 s hs, b.2 s hs⟩⟩
theorem GD.to {σ ρ σ' ρ' : Nat → Nat → Int32} {T n g : Nat} (h : GD σ ρ T n g) (h6 : σ' (T + 6) 5 = σ (T + 6) 5) (h7 : σ' (T + 7) = σ (T + 7)) (h8 : σ' (T + 8) = σ (T + 8)) (hr : ρ' 119 = ρ 119) : GD σ' ρ' T n g := by
  unfold GD hasG at h ⊢
  rw [h6, h7, h8, hr]
  exact h
theorem NDm.to {σ ρ σ' ρ' : Nat → Nat → Int32} {n : Nat} (h : NDm σ ρ n) (h5 : σ' 25 = σ 25) (h7 : ρ' 117 = ρ 117) : NDm σ' ρ' n := by
  unfold NDm at h ⊢
  rw [h5, h7]
  exact h
theorem CMm.to {σ σ' : Nat → Nat → Int32} {c j : Nat} (h : CMm σ c j) (h1 : σ' 19 3 = σ 19 3) (h2 : σ' 24 = σ 24) : CMm σ' c (j + 1) := ⟨h1.trans h.1, by have := h.2.1; omega, by rw [h2]; exact h.2.2⟩
