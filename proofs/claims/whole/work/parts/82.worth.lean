/-! PART 82: what a value is worth; what is fixed of a trace -/
def vlu (k l r L : Nat → Int32) : Nat → Nat → Int32
  | 0, _ => 0
  | f + 1, v => if k v = 0 then l v else if k v = 1 then L (tN (l v)) else wk (tN (k v)) (vlu k l r L f (tN (l v))) (vlu k l r L f (tN (r v)))
/-- value v of the trace at T, with the locals L at the turn's start -/
def val (σ : Nat → Nat → Int32) (T : Nat) (L : Nat → Int32) (v : Nat) : Int32 := vlu (σ (T + 2)) (σ (T + 3)) (σ (T + 4)) L (v + 1) v
section
variable {σ σ' : Nat → Nat → Int32} {T n : Nat} {L L' : Nat → Int32}
theorem vlu_f (h36 : n ≤ 36) (h : KP σ T n) : ∀ (f g v : Nat), v < n → v < f → v < g → vlu (σ (T + 2)) (σ (T + 3)) (σ (T + 4)) L f v = vlu (σ (T + 2)) (σ (T + 3)) (σ (T + 4)) L g v := by
  intro f
  induction f with
  | zero => intro g v _ hf; omega
  | succ f ih =>
    intro g v hv hf hg
    cases g with
    | zero => omega
    | succ g =>
      unfold vlu
      rcases h v hv with q | q | ⟨h6, op, a, b, h3, h8, ha, hb, g1, g2, g3⟩
      · rw [q.2.1, if_neg (by decide), if_pos rfl, if_neg (by decide), if_pos rfl]
      · rw [q.2, if_pos rfl, if_pos rfl]
      · rw [g1, if_neg (op_ne h3 h8).1, if_neg (op_ne h3 h8).2, if_neg (op_ne h3 h8).1, if_neg (op_ne h3 h8).2, g2, g3, tN_nI (n := a) (by omega), tN_nI (n := b) (by omega), ih g a (by omega) (by omega) (by omega), ih g b (by omega) (by omega) (by omega)]
theorem val_loc (h : KP σ T n) {v : Nat} (hv : v < n) (h6 : v < 6) : val σ T L v = L v := by
  unfold val vlu
  rcases h v hv with q | q | q
  · rw [q.2.1, if_neg (by decide), if_pos rfl, q.2.2, tN_nI (by omega)]
  · omega
  · omega
theorem val_num {v : Nat} (h : σ (T + 2) v = 0) : val σ T L v = σ (T + 3) v := by
  unfold val vlu
  rw [if_pos h]
theorem val_op (h36 : n ≤ 36) (h : KP σ T n) {v op a b : Nat} (hv : v < n) (h3 : 3 ≤ op) (h8 : op ≤ 8) (ha : a < n) (hb : b < n) (g1 : σ (T + 2) v = nI op) (g2 : σ (T + 3) v = nI a) (g3 : σ (T + 4) v = nI b) : val σ T L v = wk op (val σ T L a) (val σ T L b) := by
  have hab : a < v ∧ b < v := by
    rcases h v hv with q | q | ⟨h6, op', a', b', _, _, ha', hb', _, q2, q3⟩
    · exact absurd (g1.symm.trans q.2.1) (op_ne h3 h8).2
    · exact absurd (g1.symm.trans q.2) (op_ne h3 h8).1
    · have e1 := nI_inj (g2.symm.trans q2) (by omega) (by omega)
      have e2 := nI_inj (g3.symm.trans q3) (by omega) (by omega)
      omega
  unfold val
  rw [vlu_f h36 h (a + 1) v a ha (by omega) hab.1, vlu_f h36 h (b + 1) v b hb (by omega) hab.2]
  show (if σ (T + 2) v = 0 then σ (T + 3) v else if σ (T + 2) v = 1 then L (tN (σ (T + 3) v)) else wk (tN (σ (T + 2) v)) (vlu (σ (T + 2)) (σ (T + 3)) (σ (T + 4)) L v (tN (σ (T + 3) v))) (vlu (σ (T + 2)) (σ (T + 3)) (σ (T + 4)) L v (tN (σ (T + 4) v)))) = _
  rw [g1, if_neg (op_ne h3 h8).1, if_neg (op_ne h3 h8).2, g2, g3, tN_nI (n := a) (by omega), tN_nI (n := b) (by omega), tN_nI (n := op) (by omega)]
theorem val_to (h : ∀ i, 2 ≤ i → i ≤ 4 → σ' (T + i) = σ (T + i)) : val σ' T = val σ T := by
  funext L v
  unfold val
  rw [h 2 (by omega) (by omega), h 3 (by omega) (by omega), h 4 (by omega) (by omega)]
/-- constant values are worth the same while the locals that stay are the same -/
theorem val_cst {C : Nat → Prop} (h36 : n ≤ 36) (h : KP σ T n) (hC : ∀ v, v < n → C v → σ (T + 2) v = 0 ∨ (v < 6 ∧ L v = L' v) ∨ ∃ op a b, 3 ≤ op ∧ op ≤ 8 ∧ a < n ∧ b < n ∧ σ (T + 2) v = nI op ∧ σ (T + 3) v = nI a ∧ σ (T + 4) v = nI b ∧ C a ∧ C b) : ∀ v, v < n → C v → val σ T L v = val σ T L' v := by
  intro v
  induction v using Nat.strongRecOn with
  | ind v ih =>
    intro hv hc
    rcases hC v hv hc with q | q | ⟨op, a, b, h3, h8, ha, hb, g1, g2, g3, ca, cbb⟩
    · rw [val_num q, val_num q]
    · rw [val_loc h hv q.1, val_loc h hv q.1]; exact q.2
    · have hab : a < v ∧ b < v := by
        rcases h v hv with q | q | ⟨h6, op', a', b', _, _, ha', hb', _, q2, q3⟩
        · exact absurd (g1.symm.trans q.2.1) (op_ne h3 h8).2
        · exact absurd (g1.symm.trans q.2) (op_ne h3 h8).1
        · have e1 := nI_inj (g2.symm.trans q2) (by omega) (by omega)
          have e2 := nI_inj (g3.symm.trans q3) (by omega) (by omega)
          omega
      rw [val_op h36 h hv h3 h8 ha hb g1 g2 g3, val_op h36 h hv h3 h8 ha hb g1 g2 g3, ih a hab.1 ha ca, ih b hab.2 hb cbb]
end
/-- what instruction j pushes, as a value -/
def WOK (σ ρ : Nat → Nat → Int32) (T : Nat) (k op : Nat → Nat) (S : Nat → Nat → Int32) (N : Nat → Nat) (j : Nat) (w : Int32) : Prop :=
  (op j = 0 → ∃ v, v < N (j + 1) ∧ w = nI v ∧ σ (T + 2) v = 0 ∧ σ (T + 3) v = ρ 94 (k j)) ∧
  (3 ≤ op j ∧ op j ≤ 8 → ∃ a b v, a < N j ∧ b < N j ∧ v < N (j + 1) ∧ S j (dpt op j - 2) = nI a ∧ S j (dpt op j - 1) = nI b ∧ w = nI v ∧
    ((σ (T + 2) a = 0 ∧ σ (T + 2) b = 0 ∧ σ (T + 2) v = 0 ∧ σ (T + 3) v = wk (op j) (σ (T + 3) a) (σ (T + 3) b)) ∨ (σ (T + 2) v = nI (op j) ∧ σ (T + 3) v = nI a ∧ σ (T + 4) v = nI b)))
/-- instruction j is not in the body -/
def BNO (σ ρ : Nat → Nat → Int32) (T t : Nat) (op : Nat → Nat) (S : Nat → Nat → Int32) (N : Nat → Nat) (j : Nat) : Prop :=
  op j ≠ 12 ∧ (op j = 14 → ∃ b, b < N j ∧ S j (dpt op j - 1) = nI b ∧ ((σ (T + 2) b = 0 ∧ ρ 106 (30 * t + j) = b2i (¬ σ (T + 3) b = 0)) ∨ ∃ j', j' < j ∧ op j' = 14 ∧ S j' (dpt op j' - 1) = nI b ∧ ρ 106 (30 * t + j') = ρ 106 (30 * t + j)))
/-- instruction j is at place b of the body -/
def BYES (σ ρ : Nat → Nat → Int32) (T t : Nat) (k op : Nat → Nat) (H S : Nat → Nat → Int32) (N : Nat → Nat) (D : Nat → Prop) (j B : Nat) : Prop :=
  (op j = 12 ∧ σ (T + 14) B = nI 2 ∧ ∃ b, b < N j ∧ S j (dpt op j - 1) = nI b ∧ σ (T + 15) B = nI b ∧ D b) ∨
  (op j = 14 ∧ σ (T + 14) B = 1 ∧ ∃ b g, b < N j ∧ S j (dpt op j - 1) = nI b ∧ D b ∧ g < 15 ∧ σ (T + 15) B = nI g ∧ σ (T + 7) g = nI b ∧ σ (T + 8) g = ρ 106 (30 * t + j) ∧ σ (T + 9) g = (if ρ 106 (30 * t + j) = 0 then ρ 94 (k j) else nI (k j + 1)) ∧ σ (T + 10) g = nI (dpt op (j + 1)) ∧
    (∀ l, l < 6 → σ (T + 11) (g * 12 + l) = H (j + 1) l ∧ D (tN (H (j + 1) l))) ∧ ∀ s, s < dpt op (j + 1) → σ (T + 11) (g * 12 + (6 + s)) = S (j + 1) s ∧ D (tN (S (j + 1) s))) ∨
  (3 ≤ op j ∧ op j ≤ 8 ∧ σ (T + 14) B = 0 ∧ σ (T + 15) B = nI (N j) ∧ N (j + 1) = N j + 1 ∧ D (N j) ∧ ¬ σ (T + 2) (N j) = 0)
/-- what is fixed of trace t: values of the class, ways of the reference -/
def STAT (σ ρ : Nat → Nat → Int32) (t len n hs : Nat) (k op : Nat → Nat) (H S : Nat → Nat → Int32) (N B : Nat → Nat) (D C : Nat → Prop) : Prop :=
  (1 ≤ len ∧ len ≤ 30 ∧ 6 ≤ n ∧ n ≤ 36 ∧ KP σ (tr t) n) ∧
  (ρ 104 t = nI len ∧ ∀ j, j < len → k j < 40 ∧ ρ 105 (30 * t + j) = nI (k j) ∧ ρ 93 (k j) = nI (op j) ∧ op j < 15 ∧ (op j = 1 ∨ op j = 2 → tN (ρ 94 (k j)) < 6 ∧ ρ 94 (k j) = nI (tN (ρ 94 (k j)))) ∧ tk (op j) ≤ dpt op j ∧ dpt op j - tk (op j) + gv (op j) ≤ 6 ∧ (ρ 106 (30 * t + j) = 0 ∨ ρ 106 (30 * t + j) = 1)) ∧
  ((∀ l, l < 6 → H 0 l = nI l) ∧ N 0 = 6 ∧ N len = n ∧ ∀ j, j < len → N j ≤ N (j + 1) ∧ N (j + 1) ≤ n ∧ ∃ w, WOK σ ρ (tr t) k op S N j w ∧ stp (op j) (tN (ρ 94 (k j))) w (H j) (S j) (dpt op j) (H (j + 1)) (S (j + 1)) (dpt op (j + 1))) ∧
  (B 0 = 0 ∧ B len ≤ 30 ∧ σ (tr t) 9 = nI (B len) ∧ ∀ j, j < len → ρ 107 (30 * t + j) = nI (B (j + 1)) ∧ ((B (j + 1) = B j ∧ BNO σ ρ (tr t) t op S N j) ∨ (B (j + 1) = B j + 1 ∧ BYES σ ρ (tr t) t k op H S N D j (B j)))) ∧
  (∀ j, j < len → ∀ v, N j ≤ v → v < N (j + 1) → D v → σ (tr t + 2) v = 0 ∨ (∃ h, h < hs ∧ σ (tr t + 13) h = nI v) ∨ (B (j + 1) = B j + 1 ∧ σ (tr t + 14) (B j) = 0 ∧ σ (tr t + 15) (B j) = nI v)) ∧
  (∀ v op a b, v < n → D v → 3 ≤ op → op ≤ 8 → a < n → b < n → σ (tr t + 2) v = nI op → σ (tr t + 3) v = nI a → σ (tr t + 4) v = nI b → D a ∧ D b) ∧
  (σ (tr t) 4 = nI hs ∧ hs ≤ 30 ∧ ρ 108 t = nI hs ∧ ∀ h, h < hs → ∃ v op a b, v < n ∧ 6 ≤ v ∧ σ (tr t + 13) h = nI v ∧ C v ∧ 3 ≤ op ∧ op ≤ 8 ∧ a < n ∧ b < n ∧ σ (tr t + 2) v = nI op ∧ σ (tr t + 3) v = nI a ∧ σ (tr t + 4) v = nI b ∧ (a < 6 ∨ σ (tr t + 2) a = 0 ∨ ∃ h', h' < h ∧ σ (tr t + 13) h' = nI a) ∧ (b < 6 ∨ σ (tr t + 2) b = 0 ∨ ∃ h', h' < h ∧ σ (tr t + 13) h' = nI b)) ∧
  (∀ v, v < n → C v → σ (tr t + 2) v = 0 ∨ (v < 6 ∧ σ (tr t + 12) v = nI v) ∨ ∃ op a b, 3 ≤ op ∧ op ≤ 8 ∧ a < n ∧ b < n ∧ σ (tr t + 2) v = nI op ∧ σ (tr t + 3) v = nI a ∧ σ (tr t + 4) v = nI b ∧ C a ∧ C b) ∧
  ∀ l, l < 6 → σ (tr t + 12) l = H len l ∧ D (tN (H len l))
/-- frames' values come before N j -/
theorem STAT.fr {σ ρ : Nat → Nat → Int32} {t len n hs : Nat} {k op : Nat → Nat} {H S : Nat → Nat → Int32} {N B : Nat → Nat} {D C : Nat → Prop} (h : STAT σ ρ t len n hs k op H S N B D C) : ∀ j, j ≤ len → N j ≤ n ∧ (∀ l, l < 6 → ∃ q, q < N j ∧ H j l = nI q) ∧ ∀ s, s < dpt op j → ∃ q, q < N j ∧ S j s = nI q := by
  obtain ⟨h1, h2, h3, _⟩ := h
  intro j
  induction j with
  | zero =>
    intro _
    refine ⟨by rw [h3.2.1]; exact h1.2.2.1, fun l hl => ⟨l, by rw [h3.2.1]; exact hl, h3.1 l hl⟩, fun s hs => absurd hs (Nat.not_lt_zero _)⟩
  | succ j ih =>
    intro hj
    obtain ⟨i1, i2, i3⟩ := ih (by omega)
    obtain ⟨a1, a2, w, a3, a4⟩ := h3.2.2.2 j (by omega)
    obtain ⟨b1, b2, b3, b4, b5, b6, b7, b8⟩ := h2.2 j (by omega)
    have := stp_all (P := fun z => ∃ q, q < N (j + 1) ∧ z = nI q) a4 b6 (fun q => (b5 (Or.inl q)).1) (fun i hi => by obtain ⟨q, h1, h2⟩ := i2 i hi; exact ⟨q, by omega, h2⟩) (fun s hs => by obtain ⟨q, h1, h2⟩ := i3 s hs; exact ⟨q, by omega, h2⟩) (fun q => by
      rcases q with q | q
      · obtain ⟨v, h1, h2, _⟩ := a3.1 q; exact ⟨v, h1, h2⟩
      · obtain ⟨_, _, v, _, _, h1, _, _, h2, _⟩ := a3.2 q; exact ⟨v, h1, h2⟩) (by omega)
    exact ⟨a2, this.1, this.2⟩
