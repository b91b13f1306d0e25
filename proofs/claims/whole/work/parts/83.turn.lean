/-! PART 83: a turn of the class's trace is the reference's way gone again -/
/-- at instruction j of a turn: the class's state σ, the reference's ρ -/
def TI (s0 r0 : Nat → Nat → Int32) (t n hs : Nat) (op : Nat → Nat) (H S : Nat → Nat → Int32) (N B : Nat → Nat) (D : Nat → Prop) (L : Nat → Int32) (j : Nat) (σ ρ : Nat → Nat → Int32) : Prop :=
  ((∀ b, b ≠ tr t + 5 → b ≠ 9 → b ≠ 10 → b ≠ 11 → σ b = s0 b) ∧ (∀ i, i ≠ 3 → σ 11 i = s0 11 i) ∧ σ 11 3 = s0 11 3 + nI (B j)) ∧
  ((∀ v, v < 6 → σ (tr t + 5) v = L v) ∧ (∀ v, v < n → s0 (tr t + 2) v = 0 → σ (tr t + 5) v = s0 (tr t + 3) v) ∧ (∀ h v, h < hs → s0 (tr t + 13) h = nI v → v < n → σ (tr t + 5) v = val s0 (tr t) L v) ∧ ∀ v, v < N j → D v → σ (tr t + 5) v = val s0 (tr t) L v) ∧
  ((∀ b, b ≠ 92 → b ≠ 96 → b ≠ 97 → b ≠ 98 → ρ b = r0 b) ∧ (∀ i, i ≠ 9 → i ≠ 11 → ρ 92 i = r0 92 i) ∧ ρ 92 9 = nI (dpt op j) ∧ (∀ l, l < 6 → ρ 96 l = val s0 (tr t) L (tN (H j l))) ∧ ∀ s, s < dpt op j → ρ 97 s = val s0 (tr t) L (tN (S j s))) ∧
  GV σ ρ ∧ ∀ j', j' < j → op j' = 14 → b2i (¬ val s0 (tr t) L (tN (S j' (dpt op j' - 1))) = 0) = r0 106 (30 * t + j')
section
variable {s0 r0 σ ρ : Nat → Nat → Int32} {t len n hs j : Nat} {k op : Nat → Nat} {H S : Nat → Nat → Int32} {N B : Nat → Nat} {D C : Nat → Prop} {L : Nat → Int32}
/-- the reference's part of a step that goes on -/
theorem TI_ref (hS : STAT s0 r0 t len n hs k op H S N B D C) (h : TI s0 r0 t n hs op H S N B D L j σ ρ) (hj : j < len) :
    dsS ρ (k j) = dsO ρ (k j) (op j) (dpt op j) ∧ (∀ b, b ≠ 92 → b ≠ 96 → b ≠ 97 → b ≠ 98 → (dsS ρ (k j)).2 b = r0 b) ∧ (∀ i, i ≠ 9 → i ≠ 11 → (dsS ρ (k j)).2 92 i = r0 92 i) ∧ (dsS ρ (k j)).2 92 9 = nI (dpt op (j + 1)) ∧ (∀ l, l < 6 → (dsS ρ (k j)).2 96 l = val s0 (tr t) L (tN (H (j + 1) l))) ∧ (∀ s, s < dpt op (j + 1) → (dsS ρ (k j)).2 97 s = val s0 (tr t) L (tN (S (j + 1) s))) := by
  have hfr := hS.fr j (by omega)
  obtain ⟨⟨l1, l30, n6, n36, hkp⟩, ⟨_, hc⟩, ⟨_, _, _, hst⟩, _⟩ := hS
  obtain ⟨b1, b2, b3, b4, b5, b6, b7, b8⟩ := hc j hj
  obtain ⟨a1, a2, w, a3, a4⟩ := hst j hj
  obtain ⟨_, _, ⟨c1, c2, c3, c4, c5⟩, _, _⟩ := h
  have hdn : dpt op j ≤ 100 := by
    have h6 : ∀ i, i ≤ len → dpt op i ≤ 6 := by
      intro i hi
      cases i with
      | zero => exact Nat.zero_le _
      | succ i => exact (hc i (by omega)).2.2.2.2.2.2.1
    have := h6 j (by omega); omega
  have e93 : tN (ρ 93 (k j)) = op j := by rw [c1 93 (by omega) (by omega) (by omega) (by omega), b3, tN_nI (by omega)]
  have e : dsS ρ (k j) = dsO ρ (k j) (op j) (dpt op j) := by
    unfold dsS
    rw [e93, c3, tN_nI (by omega)]
  have f := ds_frame (σ := ρ) (k := k j) (op := op j) (e := dpt op j) (by omega) b6 c3
  have x94 : ρ 94 = r0 94 := c1 94 (by omega) (by omega) (by omega) (by omega)
  have rel := stp_rel (f := fun z => val s0 (tr t) L (tN z)) f.1 (by rw [x94]; exact a4) b6 (by rw [x94]; exact fun q => (b5 (Or.inl q)).1) c4 c5 (fun q => by
    unfold wv
    rcases q with q | q
    · obtain ⟨v, h1, h2, h3, h4⟩ := a3.1 q
      rw [if_pos q, h2, tN_nI (by omega), val_num h3, h4, x94]
    · obtain ⟨a, b, v, ha, hb, hv, h1, h2, h3, h4⟩ := a3.2 q
      have tk2 := (tkgv_op q.1 q.2).1
      rw [if_neg (by omega), c5 _ (by omega), c5 _ (by omega), h1, h2, h3, tN_nI (n := a) (by omega), tN_nI (n := b) (by omega), tN_nI (n := v) (by omega)]
      rcases h4 with ⟨g1, g2, g3, g4⟩ | ⟨g1, g2, g3⟩
      · rw [val_num g1, val_num g2, val_num g3, g4]
      · rw [val_op n36 hkp (v := v) (a := a) (b := b) (by omega) q.1 q.2 (by omega) (by omega) g1 g2 g3]) (by omega)
  refine ⟨e, fun b h1 h2 h3 h4 => ?_, fun i h1 h2 => ?_, ?_, ?_, ?_⟩
  · rw [dsS_ne ⟨h2, h3, h4, h1⟩]; exact c1 b h1 h2 h3 h4
  · rw [dsS_92 ⟨h1, h2⟩]; exact c2 i h1 h2
  · rw [e]; exact f.2.1
  · rw [e]; exact rel.2.1
  · rw [e]; exact rel.2.2
/-- the results after instruction j, if an operation's item was done -/
theorem TI_res (hS : STAT s0 r0 t len n hs k op H S N B D C) (h : TI s0 r0 t n hs op H S N B D L j σ ρ) (hj : j < len) {R : Nat → Int32} (hR : ∀ v, v < N j → D v → R v = σ (tr t + 5) v) (h0 : ∀ v, v < n → s0 (tr t + 2) v = 0 → R v = s0 (tr t + 3) v) (hh : ∀ h v, h < hs → s0 (tr t + 13) h = nI v → v < n → R v = val s0 (tr t) L v) (hi : B (j + 1) = B j + 1 → s0 (tr t + 14) (B j) = 0 → ∀ v, v < n → s0 (tr t + 15) (B j) = nI v → R v = val s0 (tr t) L v) : ∀ v, v < N (j + 1) → D v → R v = val s0 (tr t) L v := by
  obtain ⟨⟨l1, l30, n6, n36, hkp⟩, _, ⟨_, _, _, hst⟩, _, hnew, _⟩ := hS
  obtain ⟨a1, a2, _⟩ := hst j hj
  intro v hv hd
  by_cases hvj : v < N j
  · rw [hR v hvj hd]; exact h.2.1.2.2.2 v hvj hd
  · rcases hnew j hj v (by omega) hv hd with q | ⟨g, hg, q⟩ | ⟨q1, q2, q3⟩
    · rw [h0 v (by omega) q, val_num q]
    · exact hh g v hg q (by omega)
    · exact hi q1 q2 v (by omega) q3
/-- the last number on the stack, in the reference -/
theorem TI_top (hS : STAT s0 r0 t len n hs k op H S N B D C) (h : TI s0 r0 t n hs op H S N B D L j σ ρ) (hj : j < len) {b : Nat} (hb : b < N j) (hp : 1 ≤ dpt op j) (hs' : S j (dpt op j - 1) = nI b) : ρ 97 (dpt op j - 1) = val s0 (tr t) L b := by
  have hfr := hS.fr j (by omega)
  have := hS.1.2.2.2.1
  rw [h.2.2.1.2.2.2.2 _ (by omega), hs', tN_nI (by omega)]
theorem dpt6 (hS : STAT s0 r0 t len n hs k op H S N B D C) : ∀ i, i ≤ len → dpt op i ≤ 6 := by
  obtain ⟨_, ⟨_, hc⟩, _⟩ := hS
  intro i hi
  cases i with
  | zero => exact Nat.zero_le _
  | succ i => exact (hc i (by omega)).2.2.2.2.2.2.1
theorem goes_eq (hS : STAT s0 r0 t len n hs k op H S N B D C) (h : TI s0 r0 t n hs op H S N B D L j σ ρ) (hj : j < len) (h14 : op j = 14) : ∃ b, b < N j ∧ S j (dpt op j - 1) = nI b ∧ goesB ρ (k j) = b2i (¬ val s0 (tr t) L b = 0) ∧ ρ 97 (dpt op j - 1) = val s0 (tr t) L b ∧ 1 ≤ dpt op j := by
  have hfr := hS.fr j (by omega)
  have h6 := dpt6 hS j (by omega)
  obtain ⟨b1, b2, b3, b4, b5, b6, b7, b8⟩ := hS.2.1.2 j hj
  have hp : 1 ≤ dpt op j := by rw [h14] at b6; exact b6
  obtain ⟨b, hb, hsb⟩ := hfr.2.2 (dpt op j - 1) (by omega)
  have ht := TI_top hS h hj hb hp hsb
  refine ⟨b, hb, hsb, ?_, ht, hp⟩
  unfold goesB
  rw [h.2.2.1.2.2.1, tN_nI (by omega), ht, h.2.2.1.1 93 (by omega) (by omega) (by omega) (by omega), b3, h14]
  unfold b2i
  by_cases hv : val s0 (tr t) L b = 0
  · rw [if_neg (fun q => q.2 hv), if_neg (fun q => q hv)]
  · rw [if_pos ⟨rfl, hv⟩, if_pos hv]
/-- a step that goes on -/
theorem TI_next (hS : STAT s0 r0 t len n hs k op H S N B D C) (h : TI s0 r0 t n hs op H S N B D L j σ ρ) (hj : j < len) (hgo : op j = 14 → goesB ρ (k j) = r0 106 (30 * t + j)) :
    ∃ σ1, TI s0 r0 t n hs op H S N B D L (j + 1) σ1 (dsS ρ (k j)).2 ∧ ((B (j + 1) = B j ∧ σ1 = σ) ∨ (B (j + 1) = B j + 1 ∧ ∀ m, bdF (tr t) (m + 1) (B j) σ = bdF (tr t) m (B j + 1) σ1)) := by
  have hT := tr_lo t
  have hfr := hS.fr j (by omega)
  have h6 := dpt6 hS
  obtain ⟨R1, R2, R3, R4, R5, R6⟩ := TI_ref hS h hj
  obtain ⟨⟨l1, l30, n6, n36, hkp⟩, ⟨_, hc⟩, ⟨_, _, _, hst⟩, ⟨_, hB30, _, hbody⟩, hnew, hDc, hhead, _, _⟩ := id hS
  obtain ⟨b1, b2, b3, b4, b5, b6, b7, b8⟩ := hc j hj
  obtain ⟨a1, a2, _⟩ := hst j hj
  obtain ⟨⟨c1, c2, c3⟩, ⟨d1, d2, d3, d4⟩, ⟨e1, e2, e3, e4, e5⟩, hG, hE⟩ := id h
  have hE' : ∀ j', j' < j + 1 → op j' = 14 → b2i (¬ val s0 (tr t) L (tN (S j' (dpt op j' - 1))) = 0) = r0 106 (30 * t + j') := by
    intro j' hj' ho
    by_cases hjj : j' = j
    · subst hjj
      obtain ⟨b, hb, hsb, hg, _, _⟩ := goes_eq hS h hj ho
      rw [hsb, tN_nI (by omega), ← hg]
      exact hgo ho
    · exact hE j' (by omega) ho
  have ds98 : op j ≠ 12 → (dsS ρ (k j)).2 92 11 = ρ 92 11 ∧ (dsS ρ (k j)).2 98 = ρ 98 := by
    intro hne
    rw [R1]
    have := ds_ne12 (σ := ρ) (k := k j) (e := dpt op j) (show op j < 16 by omega) hne
    exact ⟨this.2, this.1⟩
  have rw14 : ∀ i, 6 ≤ i → i ≤ 15 → σ (tr t + i) = s0 (tr t + i) := fun i h1 h2 => c1 _ (by omega) (by omega) (by omega) (by omega)
  rcases (hbody j hj).2 with ⟨hB, hno⟩ | ⟨hB, hy⟩
  · refine ⟨σ, ⟨⟨c1, c2, by rw [hB]; exact c3⟩, ⟨d1, d2, d3, ?_⟩, ⟨R2, R3, R4, R5, R6⟩, ?_, hE'⟩, Or.inl ⟨hB, rfl⟩⟩
    · exact TI_res hS h hj (fun v _ _ => rfl) d2 d3 (fun q => by omega)
    · have := ds98 hno.1
      exact hG.to rfl rfl this.1 this.2
  · have tkb : ∀ i, tkS σ (tr t + i) = σ (tr t + i) := fun i => tkS_t
    have tkn : ∀ b, b ≠ 11 → tkS σ b = σ b := fun b hb => by unfold tkS; rw [z_up_ne _ _ _ hb]
    have tk11 : ∀ i, i ≠ 3 → tkS σ 11 i = σ 11 i := fun i hi => by unfold tkS; rw [z_up_o _ _ (Or.inr hi)]
    have tk3 : tkS σ 11 3 = s0 11 3 + nI (B (j + 1)) := by
      unfold tkS
      rw [z_up_s, c3, hB, ← nI_add2, Int32.add_assoc]; rfl
    rcases hy with ⟨y1, y2, b, yb, ys, yp, yd⟩ | ⟨y1, y2, b, g, yb, ys, yd, yg, yp, ya, yw, yo, yde, ypl, yps⟩ | ⟨y3, y8, y2, yp, yn, yd, yk⟩
    · -- OUT
      have hpb : tN (σ (tr t + 15) (B j)) = b := by rw [rw14 15 (by omega) (by omega), yp, tN_nI (by omega)]
      have hval : σ (tr t + 5) b = val s0 (tr t) L b := d4 b yb yd
      have hp : 1 ≤ dpt op j := by rw [y1] at b6; exact b6
      have htop := TI_top hS h hj yb hp ys
      have gr : ∀ i, gvS (tkS σ) (σ (tr t + 5) b) (tr t + i) = σ (tr t + i) := fun i => by rw [gvS_ne (by omega) (by omega), tkb i]
      refine ⟨gvS (tkS σ) (σ (tr t + 5) b), ⟨⟨fun b' h1 h2 h3 h4 => ?_, fun i hi => ?_, ?_⟩, ⟨?_, ?_, ?_, ?_⟩, ⟨R2, R3, R4, R5, R6⟩, ?_, hE'⟩, Or.inr ⟨hB, fun m => ?_⟩⟩
      · rw [gvS_ne h2 h3, tkn _ h4]; exact c1 b' h1 h2 h3 h4
      · rw [gvS_ne (by omega) (by omega), tk11 i hi]; exact c2 i hi
      · rw [gvS_ne (by omega) (by omega)]; exact tk3
      · rw [gr]; exact d1
      · rw [gr]; exact d2
      · rw [gr]; exact d3
      · rw [gr]
        exact TI_res hS h hj (fun v _ _ => rfl) d2 d3 (fun _ q => by rw [y2] at q; exact absurd q (by decide))
      · have hgv : GV (tkS σ) ρ := hG.to (tkn _ (by omega)) (tkn _ (by omega)) rfl rfl
        have := hgv.give (σ (tr t + 5) b)
        have q12 := @ds_12 ρ (k j) (dpt op j)
        rw [y1] at R1
        refine this.to rfl rfl ?_ ?_
        · rw [R1, q12.2, htop, hval]
        · rw [R1, q12.1, htop, hval]
      · show (if σ (tr t + 14) (B j) = 0 then _ else if σ (tr t + 14) (B j) = nI 2 then _ else _) = _
        rw [rw14 14 (by omega) (by omega), y2, if_neg (by decide), if_pos rfl, hpb]
    · -- a guard that holds
      have hpg : tN (σ (tr t + 15) (B j)) = g := by rw [rw14 15 (by omega) (by omega), yp, tN_nI (by omega)]
      have hval : σ (tr t + 5) b = val s0 (tr t) L b := d4 b yb yd
      obtain ⟨b', yb', ys', hgo', _, _⟩ := goes_eq hS h hj y1
      have ebb : b = b' := nI_inj (ys.symm.trans ys') (by omega) (by omega)
      subst ebb
      refine ⟨tkS σ, ⟨⟨fun b' h1 h2 h3 h4 => ?_, fun i hi => ?_, tk3⟩, ⟨?_, ?_, ?_, ?_⟩, ⟨R2, R3, R4, R5, R6⟩, ?_, hE'⟩, Or.inr ⟨hB, fun m => ?_⟩⟩
      · rw [tkn _ h4]; exact c1 b' h1 h2 h3 h4
      · rw [tk11 i hi]; exact c2 i hi
      · rw [tkb]; exact d1
      · rw [tkb]; exact d2
      · rw [tkb]; exact d3
      · rw [tkb]
        exact TI_res hS h hj (fun v _ _ => rfl) d2 d3 (fun _ q => by rw [y2] at q; exact absurd q (by decide))
      · have := ds98 (by omega)
        exact hG.to (tkn _ (by omega)) (tkn _ (by omega)) this.1 this.2
      · show (if σ (tr t + 14) (B j) = 0 then _ else if σ (tr t + 14) (B j) = nI 2 then _ else if b2i (σ (tr t + 5) (tN (σ (tr t + 7) (tN (σ (tr t + 15) (B j))))) ≠ 0) = σ (tr t + 8) (tN (σ (tr t + 15) (B j))) then _ else _) = _
        rw [rw14 14 (by omega) (by omega), y2, if_neg (by decide), if_neg (by decide), hpg, rw14 7 (by omega) (by omega), rw14 8 (by omega) (by omega), ya, yw, tN_nI (n := b) (by omega), hval, if_pos]
        exact hgo'.symm.trans (hgo y1)
    · -- an operation
      have hvn : N j < n := by omega
      have hpv : tN (σ (tr t + 15) (B j)) = N j := by rw [rw14 15 (by omega) (by omega), yp, tN_nI (by omega)]
      have h6N : 6 ≤ N j ∧ ∃ o a b, 3 ≤ o ∧ o ≤ 8 ∧ a < N j ∧ b < N j ∧ s0 (tr t + 2) (N j) = nI o ∧ s0 (tr t + 3) (N j) = nI a ∧ s0 (tr t + 4) (N j) = nI b := by
        rcases hkp (N j) hvn with q | q | q
        · have : 6 ≤ N j := by
            obtain ⟨q1, q2, q3⟩ := hfr
            have : ∀ i, i ≤ len → 6 ≤ N i := by
              intro i
              induction i with
              | zero => intro _; rw [hS.2.2.1.2.1]; exact Nat.le_refl 6
              | succ i ih => intro hi; have := ih (by omega); have := (hst i (by omega)).1; omega
            exact this j (by omega)
          omega
        · exact absurd q.2 yk
        · exact q
      obtain ⟨h6N, o, a, b, o3, o8, ha, hb, g1, g2, g3⟩ := h6N
      have hDab := hDc (N j) o a b hvn yd o3 o8 (by omega) (by omega) g1 g2 g3
      have s2 : σ (tr t + 2) = s0 (tr t + 2) := c1 _ (by omega) (by omega) (by omega) (by omega)
      have s3 : σ (tr t + 3) = s0 (tr t + 3) := c1 _ (by omega) (by omega) (by omega) (by omega)
      have s4 : σ (tr t + 4) = s0 (tr t + 4) := c1 _ (by omega) (by omega) (by omega) (by omega)
      have e5 : wkS (tkS σ) (tr t) (N j) (tr t + 5) = va_up (σ (tr t + 5)) (N j) (val s0 (tr t) L (N j)) := by
        unfold wkS
        rw [z_up_row, tkb, tkb, tkb, tkb, s2, s3, s4, g1, g2, g3, tN_nI (n := o) (by omega), tN_nI (n := a) (by omega), tN_nI (n := b) (by omega), d4 a ha hDab.1, d4 b hb hDab.2, ← val_op n36 hkp hvn o3 o8 (by omega) (by omega) g1 g2 g3]
      refine ⟨wkS (tkS σ) (tr t) (N j), ⟨⟨fun b' h1 h2 h3 h4 => ?_, fun i hi => ?_, ?_⟩, ⟨?_, ?_, ?_, ?_⟩, ⟨R2, R3, R4, R5, R6⟩, ?_, hE'⟩, Or.inr ⟨hB, fun m => ?_⟩⟩
      · rw [wkS_ne _ _ _ h1, tkn _ h4]; exact c1 b' h1 h2 h3 h4
      · rw [wkS_ne _ _ _ (by omega), tk11 i hi]; exact c2 i hi
      · rw [wkS_ne _ _ _ (by omega)]; exact tk3
      · intro v hv; rw [e5, upE, if_neg (by omega)]; exact d1 v hv
      · intro v hv hk; rw [e5, upE, if_neg (fun q => yk (by rw [← q]; exact hk))]; exact d2 v hv hk
      · intro g v hg hgv hv
        rw [e5, upE]
        by_cases q : v = N j
        · rw [if_pos q, q]
        · rw [if_neg q]; exact d3 g v hg hgv hv
      · rw [e5]
        refine TI_res hS h hj (fun v hv _ => by rw [upE, if_neg (by omega)]) (fun v hv hk => by rw [upE, if_neg (fun q => yk (by rw [← q]; exact hk))]; exact d2 v hv hk) (fun g v hg hgv hv => ?_) (fun _ _ v hv q => ?_)
        · rw [upE]
          by_cases q : v = N j
          · rw [if_pos q, q]
          · rw [if_neg q]; exact d3 g v hg hgv hv
        · have : v = N j := nI_inj (q.symm.trans yp) (by omega) (by omega)
          rw [upE, if_pos this, this]
      · have := ds98 (by omega)
        refine hG.to ?_ ?_ this.1 this.2
        · rw [wkS_ne _ _ _ (by omega), tkn _ (by omega)]
        · rw [wkS_ne _ _ _ (by omega), tkn _ (by omega)]
      · show (if σ (tr t + 14) (B j) = 0 then _ else _) = _
        rw [rw14 14 (by omega) (by omega), y2, if_pos rfl, hpv]
/-- a step that leaves -/
theorem TI_leave (hS : STAT s0 r0 t len n hs k op H S N B D C) (h : TI s0 r0 t n hs op H S N B D L j σ ρ) (hj : j < len) (h14 : op j = 14) (hgo : ¬ goesB ρ (k j) = r0 106 (30 * t + j)) :
    B (j + 1) = B j + 1 ∧ ∃ g, g < 15 ∧ s0 (tr t + 10) g = nI (dpt op (j + 1)) ∧ s0 (tr t + 9) g = (if r0 106 (30 * t + j) = 0 then r0 94 (k j) else nI (k j + 1)) ∧ (∀ l, l < 6 → s0 (tr t + 11) (g * 12 + l) = H (j + 1) l ∧ D (tN (H (j + 1) l))) ∧ (∀ s, s < dpt op (j + 1) → s0 (tr t + 11) (g * 12 + (6 + s)) = S (j + 1) s ∧ D (tN (S (j + 1) s))) ∧ ∀ m, bdF (tr t) (m + 1) (B j) σ = (0, rstG (tkS σ) (tr t) g (dpt op (j + 1))) := by
  have hT := tr_lo t
  have hfr := hS.fr j (by omega)
  have h6 := dpt6 hS
  obtain ⟨b, hb, hsb, hg, htop, hp⟩ := goes_eq hS h hj h14
  obtain ⟨⟨l1, l30, n6, n36, hkp⟩, ⟨_, hc⟩, _, ⟨_, hB30, _, hbody⟩, _⟩ := id hS
  obtain ⟨⟨c1, c2, c3⟩, ⟨d1, d2, d3, d4⟩, _, hG, hE⟩ := id h
  have rw14 : ∀ i, 6 ≤ i → i ≤ 15 → σ (tr t + i) = s0 (tr t + i) := fun i h1 h2 => c1 _ (by omega) (by omega) (by omega) (by omega)
  rcases (hbody j hj).2 with ⟨hB, hno⟩ | ⟨hB, hy⟩
  · exfalso
    obtain ⟨b', hb', hsb', q⟩ := hno.2 h14
    have ebb : b = b' := nI_inj (hsb.symm.trans hsb') (by omega) (by omega)
    subst ebb
    rcases q with ⟨q1, q2⟩ | ⟨j', q1, q2, q3, q4⟩
    · apply hgo
      rw [hg, q2, val_num q1]
    · apply hgo
      have := hE j' q1 q2
      rw [q3, tN_nI (by omega)] at this
      rw [hg, this, q4]
  · refine ⟨hB, ?_⟩
    rcases hy with ⟨y1, _⟩ | ⟨y1, y2, b', g, yb, ys, yd, yg, yp, ya, yw, yo, yde, ypl, yps⟩ | ⟨y3, y8, _⟩
    · omega
    · have ebb : b = b' := nI_inj (hsb.symm.trans ys) (by omega) (by omega)
      subst ebb
      refine ⟨g, yg, yde, yo, ypl, yps, fun m => ?_⟩
      have hpg : tN (σ (tr t + 15) (B j)) = g := by rw [rw14 15 (by omega) (by omega), yp, tN_nI (by omega)]
      have hval : σ (tr t + 5) b = val s0 (tr t) L b := d4 b yb yd
      show (if σ (tr t + 14) (B j) = 0 then _ else if σ (tr t + 14) (B j) = nI 2 then _ else if b2i (σ (tr t + 5) (tN (σ (tr t + 7) (tN (σ (tr t + 15) (B j))))) ≠ 0) = σ (tr t + 8) (tN (σ (tr t + 15) (B j))) then _ else (0, rstG (tkS σ) (tr t) (tN (σ (tr t + 15) (B j))) (tN (σ (tr t + 10) (tN (σ (tr t + 15) (B j))))))) = _
      rw [rw14 14 (by omega) (by omega), y2, if_neg (by decide), if_neg (by decide), hpg, rw14 7 (by omega) (by omega), rw14 8 (by omega) (by omega), rw14 10 (by omega) (by omega), ya, yw, yde, tN_nI (n := b) (by omega), tN_nI (n := dpt op (j + 1)) (by have := h6 (j + 1) (by omega); omega), hval, if_neg]
      intro q
      exact hgo (hg.trans q)
    · omega
theorem B_le (hS : STAT s0 r0 t len n hs k op H S N B D C) : ∀ i, i ≤ len → B (len - i) ≤ B len := by
  intro i
  induction i with
  | zero => intro _; exact Nat.le_refl _
  | succ i ih =>
    intro hi
    have a := ih (by omega)
    have b := (hS.2.2.2.1.2.2.2 (len - (i + 1)) (by omega)).2
    rw [show len - (i + 1) + 1 = len - i by omega] at b
    rcases b with ⟨b, _⟩ | ⟨b, _⟩ <;> omega
/-- the whole turn -/
theorem turn_all (hS : STAT s0 r0 t len n hs k op H S N B D C) : ∀ (m j : Nat) (σ ρ : Nat → Nat → Int32), j + m = len → TI s0 r0 t n hs op H S N B D L j σ ρ →
    (∃ σ1 ρ1, TI s0 r0 t n hs op H S N B D L len σ1 ρ1 ∧ bdF (tr t) (B len - B j) (B j) σ = (1, finS σ1 (tr t) 6) ∧ tnF t len m j ρ = tnE ρ1 t len) ∨
    (∃ i σ1 ρ1 g, i < len ∧ TI s0 r0 t n hs op H S N B D L i σ1 ρ1 ∧ op i = 14 ∧ ¬ goesB ρ1 (k i) = r0 106 (30 * t + i) ∧ B (i + 1) = B i + 1 ∧ g < 15 ∧ s0 (tr t + 10) g = nI (dpt op (i + 1)) ∧ s0 (tr t + 9) g = (if r0 106 (30 * t + i) = 0 then r0 94 (k i) else nI (k i + 1)) ∧ (∀ l, l < 6 → s0 (tr t + 11) (g * 12 + l) = H (i + 1) l ∧ D (tN (H (i + 1) l))) ∧ (∀ s, s < dpt op (i + 1) → s0 (tr t + 11) (g * 12 + (6 + s)) = S (i + 1) s ∧ D (tN (S (i + 1) s))) ∧
      bdF (tr t) (B len - B j) (B j) σ = (0, rstG (tkS σ1) (tr t) g (dpt op (i + 1))) ∧ tnF t len m j ρ = tnL ρ1 (30 * t + i) (k i)) := by
  intro m
  induction m with
  | zero =>
    intro j σ ρ hj h
    have : j = len := by omega
    subst this
    exact Or.inl ⟨σ, ρ, h, by rw [Nat.sub_self]; rfl, rfl⟩
  | succ m ih =>
    intro j σ ρ hj h
    have hjl : j < len := by omega
    obtain ⟨b1, b2, b3, b4, b5, b6, b7, b8⟩ := hS.2.1.2 j hjl
    have e105 : tN (ρ 105 (30 * t + j)) = k j := by rw [h.2.2.1.1 105 (by omega) (by omega) (by omega) (by omega), b2, tN_nI (by omega)]
    have e106 : ρ 106 (30 * t + j) = r0 106 (30 * t + j) := by rw [h.2.2.1.1 106 (by omega) (by omega) (by omega) (by omega)]
    have e93 : ρ 93 (k j) = nI (op j) := by rw [h.2.2.1.1 93 (by omega) (by omega) (by omega) (by omega), b3]
    have hle := B_le hS (len - (j + 1)) (by omega)
    rw [show len - (len - (j + 1)) = j + 1 by omega] at hle
    have ut : tnF t len (m + 1) j ρ = if ρ 93 (k j) = nI 14 ∧ ¬ goesB ρ (k j) = ρ 106 (30 * t + j) then tnL ρ (30 * t + j) (k j) else tnF t len m (j + 1) (dsS ρ (k j)).2 := by
      show (if ρ 93 (tN (ρ 105 (30 * t + j))) = nI 14 ∧ ¬ goesB ρ (tN (ρ 105 (30 * t + j))) = ρ 106 (30 * t + j) then tnL ρ (30 * t + j) (tN (ρ 105 (30 * t + j))) else tnF t len m (j + 1) (dsS ρ (tN (ρ 105 (30 * t + j)))).2) = _
      rw [e105]
    rw [ut, e93, e106]
    by_cases hl : nI (op j) = nI 14 ∧ ¬ goesB ρ (k j) = r0 106 (30 * t + j)
    · rw [if_pos hl]
      have h14 : op j = 14 := nI_inj hl.1 (by omega) (by omega)
      obtain ⟨hB, g, g1, g2, g3, g4, g5, g6⟩ := TI_leave hS h hjl h14 hl.2
      refine Or.inr ⟨j, σ, ρ, g, hjl, h, h14, hl.2, hB, g1, g2, g3, g4, g5, ?_, rfl⟩
      rw [show B len - B j = (B len - B (j + 1)) + 1 by omega]
      exact g6 _
    · rw [if_neg hl]
      obtain ⟨σ1, hT1, hcs⟩ := TI_next hS h hjl (fun q => Decidable.byContradiction fun w => hl ⟨by rw [q], w⟩)
      have := ih (j + 1) σ1 _ (by omega) hT1
      have eb : bdF (tr t) (B len - B j) (B j) σ = bdF (tr t) (B len - B (j + 1)) (B (j + 1)) σ1 := by
        rcases hcs with ⟨q1, q2⟩ | ⟨q1, q2⟩
        · rw [q1, q2]
        · rw [show B len - B j = (B len - B (j + 1)) + 1 by omega, q2, q1]
      rw [eb]
      exact this
end
