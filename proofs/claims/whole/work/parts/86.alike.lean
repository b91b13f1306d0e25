/-! PART 86: class and reference stand alike -/
def opc (σ : Nat → Nat → Int32) (a : Nat) : Nat := tN (σ 2 a)
def jmc (σ : Nat → Nat → Int32) (a : Nat) : Nat := tN (σ 3 a)
def CD (σ ρ : Nat → Nat → Int32) (n : Nat) : Prop := n ≤ 40 ∧ σ 1 2 = nI n ∧ ρ 92 1 = nI n ∧ ∀ a, a < n → opc σ a < 16 ∧ σ 2 a = nI (opc σ a) ∧ ρ 93 a = σ 2 a ∧ ρ 94 a = σ 3 a ∧ (opc σ a = 1 ∨ opc σ a = 2 → jmc σ a < 6 ∧ σ 3 a = nI (jmc σ a)) ∧ (opc σ a = 13 ∨ opc σ a = 14 → jmc σ a < 40 ∧ σ 3 a = nI (jmc σ a))
def FLG (σ ρ : Nat → Nat → Int32) : Prop := ρ 92 5 = σ 0 9 ∧ (σ 0 11 = 0 ∨ σ 0 11 = 1) ∧ ρ 92 6 = σ 0 11
def FR (σ ρ : Nat → Nat → Int32) (e : Nat) : Prop := σ 6 2 = nI e ∧ ρ 92 9 = nI e ∧ e ≤ 6 ∧ (∀ l, l < 6 → σ 7 l = ρ 96 l) ∧ ∀ s, s < e → σ 8 s = ρ 97 s
def TAL (σ ρ : Nat → Nat → Int32) : Prop := σ 11 0 = ρ 92 31 ∧ σ 11 1 = ρ 92 32 ∧ σ 11 2 = ρ 92 33 ∧ σ 11 3 = ρ 92 34
def PLC (σ ρ : Nat → Nat → Int32) (tc : Nat) : Prop := ∀ i, i < 40 → σ 13 i = ρ 99 i ∧ σ 14 i = ρ 100 i ∧ σ 15 i = tofF ρ (nI i) tc
def PLW (σ ρ : Nat → Nat → Int32) (tc : Nat) : Prop := (∀ i, i < 40 → σ 13 i = ρ 99 i ∧ σ 14 i = ρ 100 i) ∧ (σ 0 9 = 1 → PLC σ ρ tc)
theorem PLC.w {σ ρ : Nat → Nat → Int32} {tc : Nat} (h : PLC σ ρ tc) : PLW σ ρ tc := ⟨fun i hi => ⟨(h i hi).1, (h i hi).2.1⟩, fun _ => h⟩
def TCN (σ ρ : Nat → Nat → Int32) (tc : Nat) : Prop := tc ≤ 4 ∧ σ 0 8 = nI tc ∧ ρ 92 19 = nI tc ∧ ρ 92 20 = σ 0 12 ∧ (σ 0 12 = -1 ∨ ∃ t, t < tc ∧ σ 0 12 = nI t)
/-- recorded places are reached with their depths -/
def RK (σ : Nat → Nat → Int32) (n len : Nat) (k op : Nat → Nat) : Prop := ∀ j, j < len → k j < n ∧ opc σ (k j) = op j ∧ Rch n (opc σ) (jmc σ) (k j) (dpt op j)
def TRC (σ ρ : Nat → Nat → Int32) (t : Nat) : Prop := σ (tr t) 4 = ρ 108 t ∧ σ (tr t) 9 - σ (tr t + 6) 5 - σ (tr t) 5 = ρ 109 t ∧ σ (tr t + 6) 5 = ρ 110 t ∧ σ (tr t) 5 = ρ 111 t ∧ cstF σ (tr t) 6 = ρ 112 t
def TRI (σ ρ : Nat → Nat → Int32) (t n : Nat) : Prop := ∃ (len nn hs : Nat) (k op : Nat → Nat) (H S : Nat → Nat → Int32) (N B : Nat → Nat) (D C : Nat → Prop), STAT σ ρ t len nn hs k op H S N B D C ∧ (RK σ n len k op ∧ dpt op len = 0) ∧ (∃ p, p < n ∧ σ (tr t) 3 = nI p ∧ ρ 103 t = nI p ∧ Rch n (opc σ) (jmc σ) p 0) ∧ TRC σ ρ t ∧
  (∀ v, v < nn → σ (tr t + 2) v = 0 → σ (tr t + 5) v = σ (tr t + 3) v) ∧ (σ 0 12 = nI t → ∀ h v, h < hs → σ (tr t + 13) h = nI v → v < nn → σ (tr t + 5) v = val σ (tr t) (σ 7) v)
def RCI (σ ρ : Nat → Nat → Int32) (n e : Nat) : Prop := ∃ (g : Nat) (k op : Nat → Nat) (Lr Sr : Nat → Nat → Int32), σ 16 3 = nI g ∧ ρ 92 16 = nI g ∧ REC σ ρ g k op ∧ RUN σ g k op Lr Sr ∧ RK σ n g k op ∧ dpt op g = e ∧ (∀ l, l < 6 → Lr g l = σ 7 l) ∧ ∀ s, s < e → Sr g s = σ 8 s
def RCD (σ ρ : Nat → Nat → Int32) (n e tc : Nat) : Prop := (σ 16 2 = -1 ∧ ρ 92 15 = -1) ∨ (∃ p, p < n ∧ σ 16 2 = nI p ∧ ρ 92 15 = nI p ∧ Rch n (opc σ) (jmc σ) p 0 ∧ tc < 4 ∧ RCI σ ρ n e)
/-- the program goes on at a -/
def LIV (σ ρ : Nat → Nat → Int32) (n e a : Nat) : Prop := σ 0 9 = 1 ∧ ¬ BadC n (opc σ) (jmc σ) ∧ σ 0 10 = 0 ∧ σ 6 3 = nI a ∧ ρ 92 7 = nI a ∧ Rch n (opc σ) (jmc σ) a e
def ATT (σ ρ : Nat → Nat → Int32) (n e tc : Nat) : Prop := (σ 0 9 = 0 ∧ ρ 92 7 = -1 ∧ tc = 0 ∧ σ 16 2 = -1) ∨ (σ 0 9 = 1 ∧ ¬ BadC n (opc σ) (jmc σ) ∧ σ 0 10 = 1 ∧ ρ 92 7 = -1 ∧ σ 16 2 = -1) ∨ ∃ a, LIV σ ρ n e a
def REL (σ ρ : Nat → Nat → Int32) (n e tc : Nat) : Prop := CD σ ρ n ∧ FLG σ ρ ∧ FR σ ρ e ∧ GV σ ρ ∧ TAL σ ρ ∧ PLW σ ρ tc ∧ TCN σ ρ tc ∧ RCD σ ρ n e tc ∧ ATT σ ρ n e tc ∧ ∀ t, t < tc → TRI σ ρ t n
section
variable {σ ρ σ' ρ' : Nat → Nat → Int32} {n e tc t len nn hs : Nat} {k op : Nat → Nat} {H S : Nat → Nat → Int32} {N B : Nat → Nat} {D C : Nat → Prop} {Lr Sr : Nat → Nat → Int32}
theorem cd_eq (h2 : σ' 2 = σ 2) (h3 : σ' 3 = σ 3) : opc σ' = opc σ ∧ jmc σ' = jmc σ := by
  refine ⟨funext fun a => ?_, funext fun a => ?_⟩
  · unfold opc; rw [h2]
  · unfold jmc; rw [h3]
theorem CD.to (h : CD σ ρ n) (h1 : σ' 1 2 = σ 1 2) (h2 : σ' 2 = σ 2) (h3 : σ' 3 = σ 3) (r1 : ρ' 92 1 = ρ 92 1) (r3 : ρ' 93 = ρ 93) (r4 : ρ' 94 = ρ 94) : CD σ' ρ' n := by
  unfold CD at h ⊢
  rw [(cd_eq h2 h3).1, (cd_eq h2 h3).2, h1, h2, h3, r1, r3, r4]
  exact h
theorem RK.to (h : RK σ n len k op) (h2 : σ' 2 = σ 2) (h3 : σ' 3 = σ 3) : RK σ' n len k op := by
  unfold RK at h ⊢
  rw [(cd_eq h2 h3).1, (cd_eq h2 h3).2]
  exact h
theorem STAT.to (h : STAT σ ρ t len nn hs k op H S N B D C) (hs' : ∀ i, i ≤ 15 → i ≠ 5 → σ' (tr t + i) = σ (tr t + i)) (h93 : ρ' 93 = ρ 93) (h94 : ρ' 94 = ρ 94) (h104 : ρ' 104 t = ρ 104 t) (h108 : ρ' 108 t = ρ 108 t) (h105 : ∀ b j, 105 ≤ b → b ≤ 107 → j < 30 → ρ' b (30 * t + j) = ρ b (30 * t + j)) : STAT σ' ρ' t len nn hs k op H S N B D C := by
  have e0 : σ' (tr t) = σ (tr t) := hs' 0 (by omega) (by omega)
  obtain ⟨⟨a1, a2, a3, a4, a5⟩, ⟨b1, b2⟩, ⟨c1, c2, c3, c4⟩, ⟨d1, d2, d3, d4⟩, f5, f6, ⟨g1, g2, g3, g4⟩, f8, f9⟩ := h
  have w106 : ∀ j, j < len → ρ' 106 (30 * t + j) = ρ 106 (30 * t + j) := fun j hj => h105 106 j (by omega) (by omega) (by omega)
  refine ⟨⟨a1, a2, a3, a4, a5.to fun i h1 h2 => hs' i (by omega) (by omega)⟩, ⟨h104.trans b1, fun j hj => ?_⟩, ⟨c1, c2, c3, fun j hj => ?_⟩, ⟨d1, d2, by rw [e0]; exact d3, fun j hj => ?_⟩, ?_, ?_, ⟨by rw [e0]; exact g1, g2, h108.trans g3, ?_⟩, ?_, ?_⟩
  · rw [h105 105 j (by omega) (by omega) (by omega), w106 j hj, h93, h94]; exact b2 j hj
  · obtain ⟨q1, q2, w, q3, q4⟩ := c4 j hj
    refine ⟨q1, q2, w, ?_, by rw [h94]; exact q4⟩
    unfold WOK at q3 ⊢
    rw [hs' 2 (by omega) (by omega), hs' 3 (by omega) (by omega), hs' 4 (by omega) (by omega), h94]
    exact q3
  · obtain ⟨q1, q2⟩ := d4 j hj
    rw [h105 107 j (by omega) (by omega) (by omega)]
    refine ⟨q1, ?_⟩
    rcases q2 with ⟨q2, q3, q4⟩ | ⟨q2, q3⟩
    · refine Or.inl ⟨q2, q3, fun q => ?_⟩
      obtain ⟨b, w1, w2, w3⟩ := q4 q
      refine ⟨b, w1, w2, ?_⟩
      rw [hs' 2 (by omega) (by omega), hs' 3 (by omega) (by omega), w106 j hj]
      rcases w3 with w3 | ⟨j', z1, z2, z3, z4⟩
      · exact Or.inl w3
      · exact Or.inr ⟨j', z1, z2, z3, by rw [w106 j' (by omega)]; exact z4⟩
    · refine Or.inr ⟨q2, ?_⟩
      unfold BYES at q3 ⊢
      rw [hs' 14 (by omega) (by omega), hs' 15 (by omega) (by omega), hs' 7 (by omega) (by omega), hs' 8 (by omega) (by omega), hs' 9 (by omega) (by omega), hs' 10 (by omega) (by omega), hs' 11 (by omega) (by omega), hs' 2 (by omega) (by omega), w106 j hj, h94]
      exact q3
  · rw [hs' 2 (by omega) (by omega), hs' 13 (by omega) (by omega), hs' 14 (by omega) (by omega), hs' 15 (by omega) (by omega)]; exact f5
  · rw [hs' 2 (by omega) (by omega), hs' 3 (by omega) (by omega), hs' 4 (by omega) (by omega)]; exact f6
  · rw [hs' 2 (by omega) (by omega), hs' 3 (by omega) (by omega), hs' 4 (by omega) (by omega), hs' 13 (by omega) (by omega)]; exact g4
  · rw [hs' 2 (by omega) (by omega), hs' 3 (by omega) (by omega), hs' 4 (by omega) (by omega), hs' 12 (by omega) (by omega)]; exact f8
  · rw [hs' 12 (by omega) (by omega)]; exact f9
theorem TRI.to (h : TRI σ ρ t n) (h2 : σ' 2 = σ 2) (h3 : σ' 3 = σ 3) (hs' : ∀ i, i ≤ 15 → σ' (tr t + i) = σ (tr t + i)) (h93 : ρ' 93 = ρ 93) (h94 : ρ' 94 = ρ 94) (hr : ∀ b, (103 ≤ b ∧ b ≤ 104) ∨ (108 ≤ b ∧ b ≤ 112) → ρ' b t = ρ b t) (h105 : ∀ b j, 105 ≤ b → b ≤ 107 → j < 30 → ρ' b (30 * t + j) = ρ b (30 * t + j)) (h12 : ¬ σ' 0 12 = nI t ∨ (σ' 0 12 = σ 0 12 ∧ σ' 7 = σ 7)) : TRI σ' ρ' t n := by
  have e0 : σ' (tr t) = σ (tr t) := hs' 0 (by omega)
  obtain ⟨len, nn, hs, k, op, H, S, N, B, D, C, q1, q2, q3, q4, q5, q6⟩ := h
  refine ⟨len, nn, hs, k, op, H, S, N, B, D, C, q1.to (fun i h1 _ => hs' i h1) h93 h94 (hr 104 (by omega)) (hr 108 (by omega)) h105, ⟨q2.1.to h2 h3, q2.2⟩, ?_, ?_, ?_, ?_⟩
  · rw [e0, hr 103 (by omega), (cd_eq h2 h3).1, (cd_eq h2 h3).2]; exact q3
  · unfold TRC at q4 ⊢
    rw [cst_st] at q4 ⊢
    rw [e0, hs' 6 (by omega), hs' 12 (by omega), hr 108 (by omega), hr 109 (by omega), hr 110 (by omega), hr 111 (by omega), hr 112 (by omega)]
    exact q4
  · rw [hs' 2 (by omega), hs' 3 (by omega), hs' 5 (by omega)]; exact q5
  · rcases h12 with h12 | ⟨h12, h7⟩
    · exact fun q => absurd q h12
    · rw [h12, h7, hs' 5 (by omega), hs' 13 (by omega), val_to (fun i h1 h2 => hs' i (by omega))]; exact q6
theorem tof_congr {x : Int32} (h : ρ' 103 = ρ 103) : ∀ tc, tofF ρ' x tc = tofF ρ x tc := by
  intro tc
  induction tc with
  | zero => rfl
  | succ tc ih => unfold tofF; rw [h, ih]
theorem REC.to {g : Nat} (h : REC σ ρ g k op) (h2 : σ' 2 = σ 2) (h3 : σ' 3 = σ 3) (h93 : ρ' 93 = ρ 93) (h94 : ρ' 94 = ρ 94) (h17 : ∀ j, j < g → σ' 17 j = σ 17 j ∧ σ' 18 j = σ 18 j ∧ ρ' 101 j = ρ 101 j ∧ ρ' 102 j = ρ 102 j) : REC σ' ρ' g k op := by
  refine ⟨h.1, fun j hj => ?_⟩
  obtain ⟨a1, a2, a3, a4⟩ := h17 j hj
  rw [a1, a2, a3, a4, h2, h3, h93, h94]
  exact h.2 j hj
theorem RUN.to {g : Nat} (h : RUN σ g k op Lr Sr) (h3 : σ' 3 = σ 3) (h18 : ∀ j, j < g → σ' 18 j = σ 18 j) : RUN σ' g k op Lr Sr := by
  intro j hj
  rw [h3, h18 j hj]
  exact h j hj
theorem LIV.good {a : Nat} (h : LIV σ ρ n e a) : a < n ∧ okD (opc σ) a e := by
  obtain ⟨_, hb, _, _, _, hr⟩ := h
  refine ⟨Nat.lt_of_not_le fun q => hb ⟨a, e, hr, Or.inl q⟩, Classical.byContradiction fun q => hb ⟨a, e, hr, Or.inr (Or.inl q)⟩⟩
theorem good_uni {a q q' : Nat} (hb : ¬ BadC n (opc σ) (jmc σ)) (h : Rch n (opc σ) (jmc σ) a q) (h' : Rch n (opc σ) (jmc σ) a q') : q' = q := Classical.byContradiction fun w => hb ⟨a, q, h, Or.inr (Or.inr ⟨q', h', w⟩)⟩
theorem good_at {a q : Nat} (hb : ¬ BadC n (opc σ) (jmc σ)) (h : Rch n (opc σ) (jmc σ) a q) : a < n ∧ okD (opc σ) a q := ⟨Nat.lt_of_not_le fun w => hb ⟨a, q, h, Or.inl w⟩, Classical.byContradiction fun w => hb ⟨a, q, h, Or.inr (Or.inl w)⟩⟩
end
/-- an instruction's effect that is the same whether it is recorded or not -/
def COR (σ ρ s r : Nat → Nat → Int32) (n e a op e' a' : Nat) (y : Int32) : Prop :=
  stp op (tN (σ 3 a)) (wv op (σ 3 a) (σ 8) e) (σ 7) (σ 8) e (s 7) (s 8) e' ∧ FR s r e' ∧ GV s r ∧ TAL s r ∧ s 0 12 = -1 ∧ r 92 20 = -1 ∧ s 6 3 = nI a' ∧ r 92 7 = nI a' ∧ Rch n (opc σ) (jmc σ) a' e' ∧
  (∀ b, ¬ (b = 0 ∨ (6 ≤ b ∧ b ≤ 11)) → s b = σ b) ∧ (∀ i, i ≠ 12 → s 0 i = σ 0 i) ∧ (∀ b, ¬ (b = 92 ∨ (96 ≤ b ∧ b ≤ 98)) → r b = ρ b) ∧ (∀ i, i ≠ 7 → i ≠ 9 → i ≠ 11 → i ≠ 20 → i ≠ 31 → r 92 i = ρ 92 i) ∧ (op = 14 → y = b2i (¬ σ 8 (e - 1) = 0))
theorem core {σ ρ : Nat → Nat → Int32} {n e a : Nat} (hc : CD σ ρ n) (hf : FR σ ρ e) (hg : GV σ ρ) (ht : TAL σ ρ) (hl : LIV σ ρ n e a) (ho : opc σ a < 15) : dsS ρ a = dsO ρ a (opc σ a) e ∧ tkn ρ a = (exO σ a (opc σ a) e).1 ∧ ∃ a', COR σ ρ (inT (exO σ a (opc σ a) e).2) (riA ρ a) n e a (opc σ a) (e - tk (opc σ a) + gv (opc σ a)) a' (exO σ a (opc σ a) e).1 := by
  obtain ⟨han, hok⟩ := hl.good
  obtain ⟨l1, l2, l3, l4, l5, l6⟩ := hl
  obtain ⟨c1, c2, c3, c4⟩ := hc
  obtain ⟨o1, o2, o3, o4, o5, o6⟩ := c4 a han
  obtain ⟨f1, f2, f3, f4, f5⟩ := hf
  obtain ⟨k1, k2⟩ := hok
  have e93 : tN (ρ 93 a) = opc σ a := by rw [o3]; rfl
  have eD : dsS ρ a = dsO ρ a (opc σ a) e := by unfold dsS; rw [e93, f2, tN_nI (by omega)]
  have F1 := ex_frame (σ := σ) (a := a) (op := opc σ a) (e := e) (by omega) k1 f1
  have F2 := ds_frame (σ := ρ) (k := a) (op := opc σ a) (e := e) (by omega) k1 f2
  have hw : wv (opc σ a) (σ 3 a) (σ 8) e = wv (opc σ a) (ρ 94 a) (ρ 97) e ∨ ¬ (opc σ a = 0 ∨ (3 ≤ opc σ a ∧ opc σ a ≤ 8)) := by
    by_cases q : opc σ a = 0 ∨ (3 ≤ opc σ a ∧ opc σ a ≤ 8)
    · left
      unfold wv
      rcases q with q | q
      · rw [if_pos q, if_pos q, o4]
      · have := (tkgv_op q.1 q.2).1
        rw [if_neg (by omega), if_neg (by omega), f5 _ (by omega), f5 _ (by omega)]
    · exact Or.inr q
  rw [o4] at F2
  have rel := stp_rel (f := fun z => z) F1.1 F2.1 k1 (fun q => (o5 (Or.inl q)).1) f4 f5 (fun q => hw.elim (fun w => by rw [o4] at w; exact w) (fun w => absurd q w)) (by omega)
  have etop : opc σ a = 14 → σ 8 (e - 1) = ρ 97 (e - 1) := fun q => f5 _ (by rw [q] at k1; have : (1 : Nat) ≤ e := k1; omega)
  have jr : tkn ρ a = (exO σ a (opc σ a) e).1 := by
    rw [ex_r (by omega)]
    unfold tkn
    rw [o3, o2, f2, tN_nI (by omega)]
    unfold b2i
    by_cases q13 : opc σ a = 13
    · rw [if_pos (Or.inl (by rw [q13])), if_pos (Or.inl q13)]
    · by_cases q14 : opc σ a = 14
      · rw [etop q14]
        by_cases z : ρ 97 (e - 1) = 0
        · rw [if_neg (fun q => q.elim (fun q => q13 (nI_inj q (by omega) (by omega))) (fun q => q.2 z)), if_neg (fun q => q.elim q13 (fun q => q.2 z))]
        · rw [if_pos (Or.inr ⟨by rw [q14], z⟩), if_pos (Or.inr ⟨q14, z⟩)]
      · rw [if_neg (fun q => q.elim (fun q => q13 (nI_inj q (by omega) (by omega))) (fun q => q14 (nI_inj q.1 (by omega) (by omega)))), if_neg (fun q => q.elim q13 (fun q => q14 q.1))]
  -- where it goes on
  have hnx : ∃ a', nxt (opc σ a) a (σ 3 a) (σ 8 (e - 1)) = nI a' ∧ Rch n (opc σ) (jmc σ) a' (e - tk (opc σ a) + gv (opc σ a)) := by
    unfold nxt
    by_cases q13 : opc σ a = 13
    · rw [if_pos q13]
      exact ⟨jmc σ a, (o6 (Or.inl q13)).2, l6.s han ⟨k1, k2⟩ (Or.inr ⟨Or.inl q13, rfl⟩)⟩
    · rw [if_neg q13]
      have hs1 : Rch n (opc σ) (jmc σ) (a + 1) (e - tk (opc σ a) + gv (opc σ a)) := l6.s han ⟨k1, k2⟩ (Or.inl ⟨q13, by omega, rfl⟩)
      by_cases q14 : opc σ a = 14
      · rw [if_pos q14]
        by_cases z : σ 8 (e - 1) = 0
        · rw [if_pos z]; exact ⟨a + 1, rfl, hs1⟩
        · rw [if_neg z]; exact ⟨jmc σ a, (o6 (Or.inr q14)).2, l6.s han ⟨k1, k2⟩ (Or.inr ⟨Or.inr q14, rfl⟩)⟩
      · rw [if_neg q14]; exact ⟨a + 1, rfl, hs1⟩
  obtain ⟨a', hx1, hx2⟩ := hnx
  have hx3 : nxt (opc σ a) a (σ 3 a) (ρ 97 (e - 1)) = nI a' := by
    rw [← hx1]
    unfold nxt
    by_cases q14 : opc σ a = 14
    · rw [etop q14]
    · rw [if_neg q14, if_neg q14]
  have s0 : ∀ b, b ≠ 0 → b ≠ 11 → inT (exO σ a (opc σ a) e).2 b = (exO σ a (opc σ a) e).2 b := fun b h1 h2 => by unfold inT; rw [z_up_ne _ _ _ h1, z_up_ne _ _ _ h2]
  have r0 : ∀ b, b ≠ 92 → riA ρ a b = (dsS ρ a).2 b := fun b h1 => by unfold riA riT; rw [z_up_ne _ _ _ h1, z_up_ne _ _ _ h1, z_up_ne _ _ _ h1]
  have r92 : ∀ i, i ≠ 7 → i ≠ 20 → i ≠ 31 → riA ρ a 92 i = (dsS ρ a).2 92 i := fun i h1 h2 h3 => by unfold riA riT; rw [z_up_o _ _ (Or.inr h1), z_up_o _ _ (Or.inr h2), z_up_o _ _ (Or.inr h3)]
  have x11 : (exO σ a (opc σ a) e).2 11 = σ 11 := ex_ne (by omega) (by omega)
  refine ⟨eD, jr, a', ?_, ⟨?_, ?_, k2, ?_, ?_⟩, ?_, ⟨?_, ?_, ?_, ?_⟩, ?_, ?_, ?_, ?_, hx2, fun b hb => ?_, fun i hi => ?_, fun b hb => ?_, fun i h1 h2 h3 h4 h5 => ?_, fun q => ?_⟩
  · rw [s0 7 (by omega) (by omega), s0 8 (by omega) (by omega)]; exact F1.1
  · rw [s0 6 (by omega) (by omega)]; exact F1.2.1
  · rw [r92 9 (by omega) (by omega) (by omega), eD]; exact F2.2.1
  · rw [s0 7 (by omega) (by omega), r0 96 (by omega), eD]; exact rel.2.1
  · rw [s0 8 (by omega) (by omega), r0 97 (by omega), eD]; exact rel.2.2
  · by_cases q12 : opc σ a = 12
    · have xx := @ex_12 σ a e
      have dd := @ds_12 ρ a e
      have gg := hg.give (σ 8 (e - 1))
      have etp : σ 8 (e - 1) = ρ 97 (e - 1) := f5 _ (by rw [q12] at k1; have : (1 : Nat) ≤ e := k1; omega)
      refine gg.to ?_ ?_ ?_ ?_
      · rw [s0 9 (by omega) (by omega), q12, xx.1]
      · rw [s0 10 (by omega) (by omega), q12, xx.2]
      · rw [r92 11 (by omega) (by omega) (by omega), eD, q12, dd.2, etp]
      · rw [r0 98 (by omega), eD, q12, dd.1, etp]
    · have dd := ds_ne12 (σ := ρ) (k := a) (op := opc σ a) (e := e) (by omega) q12
      refine hg.to ?_ ?_ ?_ ?_
      · rw [s0 9 (by omega) (by omega), ex_ne12 (by omega) q12 (Or.inl rfl)]
      · rw [s0 10 (by omega) (by omega), ex_ne12 (by omega) q12 (Or.inr rfl)]
      · rw [r92 11 (by omega) (by omega) (by omega), eD, dd.2]
      · rw [r0 98 (by omega), eD, dd.1]
  · unfold inT; rw [z_up_ne _ _ _ (by omega), z_up_s, x11, ht.1]
    unfold riA riT
    rw [z_up_o _ _ (by omega), z_up_o _ _ (by omega), z_up_s]
  · unfold inT; rw [z_up_ne _ _ _ (by omega), z_up_o _ _ (by omega), x11, ht.2.1, r92 32 (by omega) (by omega) (by omega), dsS_92 (by omega)]
  · unfold inT; rw [z_up_ne _ _ _ (by omega), z_up_o _ _ (by omega), x11, ht.2.2.1, r92 33 (by omega) (by omega) (by omega), dsS_92 (by omega)]
  · unfold inT; rw [z_up_ne _ _ _ (by omega), z_up_o _ _ (by omega), x11, ht.2.2.2, r92 34 (by omega) (by omega) (by omega), dsS_92 (by omega)]
  · unfold inT; rw [z_up_s]
  · unfold riA riT; rw [z_up_o _ _ (by omega), z_up_s]
  · rw [s0 6 (by omega) (by omega), F1.2.2, hx1]
  · unfold riA; rw [z_up_s, eD, F2.2.2, if_neg (by omega), hx3]
  · rw [s0 b (by omega) (by omega)]
    by_cases hb2 : b = 14 ∨ b = 16
    · exact ex_ne15 ho (by omega)
    · exact ex_ne (by omega) (by omega)
  · unfold inT; rw [z_up_o _ _ (Or.inr hi), z_up_ne _ _ _ (by omega), ex_ne15 ho (by omega)]
  · rw [r0 b (by omega), dsS_ne (by omega)]
  · rw [r92 i h1 h4 h5, dsS_92 ⟨h2, h3⟩]
  · rw [ex_r (by omega)]
    unfold b2i
    by_cases z : σ 8 (e - 1) = 0
    · rw [if_neg (fun w => w.elim (by omega) (fun w => w.2 z)), if_neg (fun w => w z)]
    · rw [if_pos (Or.inr ⟨q, z⟩), if_pos z]
