/-! PART 58: long[]; the finished systems -/
section ZNL
variable {M : z_M} {d mc ms rc rs rc' rs' : Nat} {r : Option Value} {X1 : z_X} {n : Nat} {ρ : Nat → Nat → Option Nat} {σ : Nat → Nat → Int32} {τ : Nat → Nat → Int64} {pc : Nat} {lv : List (Option Value)} {st : List Value}
theorem z_newL {N : Nat} {x : Int32} (hd : decode M.2.1 pc = .ok (.newarray .long, 2)) (hl : Cond.arrayClass .long ∈ z_G) (hx : x = nI N) (hk : z_k n = (3, N)) (hρ : ρ n = fun _ => none) (hτ : τ n = fun _ => 0) (hb : 1 + rc' ≤ rc ∧ N + rs' ≤ rs)
    (kk : z_V M d mc ms rc' rs' r X1 (pc + 2) lv (.ref n :: st) (n + 1, ρ, σ, τ)) : z_V M d mc ms rc rs r X1 pc lv (.int x :: st) (n, ρ, σ, τ) := by
  intro p l e s m args below meth c D dA A n0 h0 h H ls locs cells slots C hat hS hlv hst hc hs
  obtain ⟨hx', hb', hml, hret, hown, hts, hlk, hnm, hK, hA, hnw, hstt⟩ := id C
  have hN := z_klen n
  rw [hk] at hN
  have hN : N < 1000 := hN
  subst hx
  refine va_newa (atype := .long) (ty := .long) (a0 := (N, .inr (.inl (fun _ => 0)))) hx' hb' (hts _ hl) rfl hK hat.2.2.2.1 hat.2.2.2.2 hS hA (fun cA => rfl) (nI_pos (by omega)) (nI_clamp (by omega)) (by show N * 8 ≤ _; omega) (by show cells + 1 ≤ mc; omega) (by show slots + N ≤ ms; omega) hd ?_
  intro q cA H1 hK1 hP1 hD1 hS1
  have hcA : cA = dA 2 := z_arrc hK1 2 rfl (Or.inr (Or.inr rfl))
  subst hcA
  have ew := z_ws_push (dA := dA) (h := h) (q := q) (E := .inl (dA 2, N, .inr (.inl (fun _ => 0)))) hat.2.2.1 hρ (by rw [hk, hτ]; rfl)
  have kq := kk p l e s m args below meth c D dA A n0 h0 (va_up h n q) H1 ls locs (cells + 1) (slots + N) C ⟨Nat.le_succ_of_le hat.1, fun i hi => (z_up_h i (Nat.lt_of_lt_of_le hi hat.1)).trans (hat.2.1 i hi), z_sc_up hat.2.2.1 hρ, ew ▸ hP1, ew ▸ hD1⟩ hS1 (hlv.mv z_up_h (Nat.le_succ n)) (fun v hv => (List.mem_cons.mp hv).elim (fun q => q ▸ z_sv.mk (Nat.lt_succ_self n)) (fun q => (hst.tl v q).up (Nat.le_succ n))) (by omega) (by omega)
  have e3 : (Value.ref n :: st).map (z_v (va_up h n q)) = Value.ref q :: st.map (z_v h) := by
    rw [List.map_cons, z_vs_eq z_up_h hst.tl]
    simp [z_v, va_up]
  rw [e3] at kq
  exact kq
end ZNL
theorem z_rp_all : (z_rt.zipIdx.all fun p => p.1.zipIdx.all fun q => q.1.isNone || z_po.contains (p.2, q.2)) = true := by decide +kernel
theorem z_po_len : z_po.length = 121 := by decide +kernel
theorem z_rp_in {i j o : Nat} (h : z_r0 i j = some o) : z_po.contains (i, j) = true := by
  unfold z_r0 at h
  rw [List.getD_eq_getElem?_getD (l := z_rt)] at h
  cases hr : z_rt[i]? with
  | none => rw [hr] at h; simp at h
  | some r =>
    rw [hr] at h
    have h : r.getD j none = some o := h
    rw [List.getD_eq_getElem?_getD] at h
    cases hj : r[j]? with
    | none => rw [hj] at h; simp at h
    | some v =>
      rw [hj] at h
      have h : v = some o := h
      have h1 := List.all_eq_true.mp z_rp_all (r, i) (List.mem_zipIdx_iff_getElem?.mpr hr)
      have h2 := List.all_eq_true.mp h1 (v, j) (List.mem_zipIdx_iff_getElem?.mpr hj)
      rw [h] at h2
      exact h2
theorem z_rp_end : z_rp 121 = z_r0 := by
  funext i j
  unfold z_rp
  rw [List.take_of_length_le (by rw [z_po_len]; exact Nat.le_refl _)]
  by_cases hc : z_po.contains (i, j) = true
  · rw [if_pos hc]
  · rw [if_neg hc]
    cases h : z_r0 i j with
    | none => rfl
    | some o => exact absurd (z_rp_in h) hc
