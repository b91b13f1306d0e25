/-! PART 92: the contracts of making a trace, in both -/
section
variable {d : Nat} {σ ρ : Nat → Nat → Int32} {τ : Nat → Nat → Int64} {t len p : Nat} {k op : Nat → Nat}
theorem fl_ok (h : REC σ ρ len k op) {r : Nat} (hr : r < len) : flOK (mkF (mk0 σ t) (tr t) r) t (tN (σ 17 r)) (σ 18 r) := by
  have hT := tr_lo t
  obtain ⟨i1, i2, i3, i4⟩ := mk_all (t := t) h r (by omega)
  obtain ⟨h30, hh⟩ := h
  obtain ⟨r1, r2, r3, r4, r5, r6, r7, r8, r9, r10, r11, r12⟩ := hh r hr
  obtain ⟨m1, m2, m3, m4, m5, m6, m7⟩ := i1
  have e17 : tN (σ 17 r) = k r := by rw [r2, tN_nI (by omega)]
  rw [e17]
  have hc := m5.2.1
  refine ⟨r1, r4, op r, _, _, _, _, ?_, by omega, m1.1, by omega, m3.1, m5.1, by omega, m7.1, by omega, r11, m3.2.2.1, r12, fun l hl => ?_, fun s hs => ?_, fun q => ?_⟩
  · rw [i4 2 (by omega)]; exact r7
  · obtain ⟨q, q1, q2⟩ := (m3.2.2.2.1 l hl).2
    exact ⟨q, by omega, q2⟩
  · obtain ⟨q, q1, q2⟩ := (m3.2.2.2.2 s hs).2
    exact ⟨q, by omega, q2⟩
  · rw [i4 3 (by omega)]; exact ⟨_, (r10 q).1, (r10 q).2⟩
theorem mk_ok (h : REC σ ρ len k op) : mkOK (mkF (mk0 σ t) (tr t) len) t (nV (cF σ t len) (tr t)) (cV (cF σ t len)) := by
  have hT := tr_lo t
  obtain ⟨m1, m2, m3, m4, m5, m6, m7⟩ := (mk_all (t := t) h len (Nat.le_refl _)).1
  have h30 := h.1
  obtain ⟨n6, n36, kp⟩ := n36 (t := t) h
  have rT : cF σ t len (tr t) = mk0 σ t (tr t) := (cF_mono (t := t) h (j := 0) len (Nat.zero_le _) (Nat.le_refl _)).2.2.2.2.2.2.2.2 (tr t) (by omega)
  obtain ⟨_, _, _, _, _, _, z4, z9, _⟩ := @mk0_cells σ t
  refine ⟨m1.1, n36, fun v hv hop => ?_, fun v hv hk => ?_, fun l hl => ?_, m5.1, Nat.le_trans m5.2.1 h30, m5.2.2, ?_, ?_⟩
  · rcases kp v hv with q | q | ⟨_, o, a, b, _, _, ha, hb, _, q2, q3⟩
    · exact absurd q.2.1 hop.2
    · exact absurd q.2 hop.1
    · exact ⟨⟨a, by omega, q2⟩, b, by omega, q3⟩
  · rcases kp v hv with q | q | ⟨_, o, a, b, o3, o8, _, _, q1, _⟩
    · exact q.1
    · exact absurd (q.2.symm.trans hk) (by decide)
    · exact absurd (q1.symm.trans hk) (op_ne o3 o8).2
  · obtain ⟨q, q1, q2⟩ := (m3.2.2.2.1 l hl).2
    exact ⟨q, Nat.lt_of_lt_of_le q1 n36, q2⟩
  · show cF σ t len (tr t) 9 = nI 0
    rw [rT, z9, nI_0]
  · show cF σ t len (tr t) 4 = nI 0
    rw [rT, z4, nI_0]
/-- the class keeps a trace -/
theorem sp_keepAll (h : REC σ ρ len k op) (ht : t < 4) (hp : p < 40) (h8 : σ 0 8 = nI t) (h2 : σ 16 2 = nI p) (h3 : σ 16 3 = nI len) : z_MV M_X10_keepTrace (d + 4) 0 0 [.ref 0] (124, z_r0, σ, τ) none (124, z_r0, ktS (mkZ σ t len) t p, τ) := by
  have hm := sp_make (d := d) (τ := τ) (t := t) ht h3 h.1 (fun r hr => ⟨k r, (h.2 r hr).1, (h.2 r hr).2.1⟩) (fun r hr => fl_ok h hr) (mk_ok h)
  have e : mkE (mkF (mk0 σ t) (tr t) len) t (nV (cF σ t len) (tr t)) (cV (cF σ t len)) = mkZ σ t len := rfl
  rw [e] at hm
  refine sp_keepTrace ht hp h8 hm ?_ ?_
  · rw [mkZ_lo h (by have := tr_lo t; omega)]; exact h2
  · rw [mkZ_lo h (by have := tr_lo t; omega)]; exact h8
theorem th_ok (h : REC σ ρ len k op) {j : Nat} (hj : j < len) : thOK (rkF ρ j) j (tN (rkF ρ j 101 j)) (tN (rkF ρ j 93 (tN (rkF ρ j 101 j)))) (tN (rkF ρ j 92 35)) (tN (rkF ρ j 92 44)) := by
  have hT := tr_lo 0
  obtain ⟨i1, i2, i3, i4⟩ := mk_all (t := 0) h j (by omega)
  obtain ⟨u1, u2, u3, u4, u5, u6⟩ := i1.nums (by have := h.1; omega)
  obtain ⟨h30, hh⟩ := h
  obtain ⟨r1, r2, r3, r4, r5, r6, r7, r8, r9, r10, r11, r12⟩ := hh j hj
  obtain ⟨m1, m2, m3, m4, m5, m6, m7⟩ := i1
  have e101 : tN (rkF ρ j 101 j) = k j := by rw [i2 101 (by omega), r3, tN_nI (by omega)]
  have e93 : tN (rkF ρ j 93 (k j)) = op j := by rw [i2 93 (by omega), r8, tN_nI (by omega)]
  rw [e101, e93, u5, u6]
  refine ⟨by omega, by rw [i2 101 (by omega)]; exact r3, r1, m1.2.1, by omega, by rw [i2 93 (by omega)]; exact r8, r6, m3.2.1, m3.2.2.1, r11, r12, fun l hl => ?_, fun s hs => ?_, fun q => ?_⟩
  · obtain ⟨q0, q, q1, q2⟩ := m3.2.2.2.1 l hl
    exact ⟨q, by omega, by rw [← q0]; exact q2⟩
  · obtain ⟨q0, q, q1, q2⟩ := m3.2.2.2.2 s hs
    exact ⟨q, by omega, by rw [← q0]; exact q2⟩
  · rw [i2 94 (by omega), ← r9]; exact r10 q
/-- the reference makes a trace -/
theorem sp_makeAll (h : REC σ ρ len k op) (ht : t < 4) (hp : p < 40) (h19 : ρ 92 19 = nI t) (h15 : ρ 92 15 = nI p) (h16 : ρ 92 16 = nI len) : z_MV M_X11_makeTrace (d + 3) 0 0 [.ref 92] (124, z_r0, ρ, τ) none (124, z_r0, rkZ ρ t len (nV (cF σ t len) (tr t)) p, τ) := by
  obtain ⟨i1, i2, i3, i4⟩ := mk_all (t := t) h len (Nat.le_refl _)
  obtain ⟨m1, m2, m3, m4, m5, m6, m7⟩ := i1
  have h30 := h.1
  obtain ⟨n6, n36, kp⟩ := n36 (t := t) h
  refine sp_makeTrace (d := d) (τ := τ) (F := rkF ρ) (G := fun j => (thS (rkF ρ j) j).2) (R := fun j => (thS (rkF ρ j) j).1) rfl (fun j hj => ⟨sp_thO (th_ok h hj), rfl⟩) (fun j hj => ?_) h30 ⟨ht, hp, n6, by omega, m1.2.1, ?_, ?_, fun v hv => ?_, fun l hl => ?_, ?_, h30, fun j hj => ?_, fun j hj => ?_⟩
  · rw [(mk_all (t := t) h j hj).2.2.1 16 (by omega) (by omega)]; exact h16
  · rw [i3 19 (by omega) (by omega)]; exact h19
  · rw [i3 15 (by omega) (by omega)]; exact h15
  · rcases m1.2.2.2 v hv with q | q | ⟨_, o, a, b, _, _, ha, hb, _, _, _, _, _, q6, q7⟩
    · exact ⟨⟨0, by omega, by rw [q.2.2.2.2.2.2.1, nI_0]⟩, 0, by omega, by rw [q.2.2.2.2.2.2.2, nI_0]⟩
    · exact ⟨⟨0, by omega, by rw [q.2.2.2.2.2.1, nI_0]⟩, 0, by omega, by rw [q.2.2.2.2.2.2.1, nI_0]⟩
    · exact ⟨⟨a, by omega, q6⟩, b, by omega, q7⟩
  · obtain ⟨q0, q, q1, q2⟩ := m3.2.2.2.1 l hl
    exact ⟨q, by omega, by rw [← q0]; exact q2⟩
  · rw [i3 16 (by omega) (by omega)]; exact h16
  · rw [i2 102 (by omega), (h.2 j hj).2.2.2.2.1]; exact (h.2 j hj).2.2.2.1
  · rw [R_mono h len hj (Nat.le_refl _)]
    rcases cam (t := t) h hj with ⟨_, q, _⟩ | ⟨_, q⟩
    · exact Or.inl q
    · rcases q with ⟨_, _, _, q, _⟩ | ⟨_, _, q, _⟩ | ⟨_, _, _, _, q, _, q7, _⟩
      · exact Or.inr (Or.inl q)
      · exact Or.inr (Or.inr (Or.inl q))
      · have := (cF_mono (t := t) h (j := j + 1) len hj (Nat.le_refl _)).1
        exact Or.inr (Or.inr (Or.inr ⟨_, by omega, q⟩))
end
