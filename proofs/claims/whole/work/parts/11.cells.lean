/-! PART 11: fields, arrays, returns over the picture -/
theorem z_klen (i : Nat) : (z_k i).2 < 1000 := by
  unfold z_k
  rw [List.getD_eq_getElem?_getD]
  cases h : z_kt[i]? with
  | none => decide
  | some q => exact (by decide +kernel : ∀ q ∈ z_kt, q.2 < 1000) q (List.mem_of_getElem? h)
theorem z_len {i k len : Nat} (h : z_k i = (k, len)) : len < 2 ^ 31 := by
  have := z_klen i
  rw [h] at this
  simp at this
  omega
theorem z_in {i k len j : Nat} {x : Int32} (hk : z_k i = (k, len)) (hx : x = nI j) (hj : j < len) : vp_in x len ∧ x.toNatClampNeg = j := by
  subst hx
  exact ⟨vp_in_nI hj (z_len hk), nI_clamp (Nat.lt_trans hj (z_len hk))⟩
theorem z_fit_int {ci k : Nat} {x : Int32} (h : z_ty ci k = .int ∨ (z_ty ci k = .boolean ∧ (x = 0 ∨ x = 1))) : narrow (z_ty ci k) (.int x) = .int x ∧ fits (z_ty ci k) (.int x) = true := by
  rcases h with h | ⟨h, rfl | rfl⟩ <;> rw [h] <;> exact ⟨rfl, rfl⟩
theorem z_fit_ref {ci k : Nat} {a : Nat} (h : z_rf ci k = true) : narrow (z_ty ci k) (.ref a) = .ref a ∧ fits (z_ty ci k) (.ref a) = true := by
  unfold z_rf at h
  split at h
  next t e => rw [e]; exact ⟨rfl, rfl⟩
  next t e => rw [e]; exact ⟨rfl, rfl⟩
  next => cases h
theorem z_nar_b {x : Int32} (h : x = 0 ∨ x = 1) : vp_nar .boolean x = x := by rcases h with rfl | rfl <;> decide
def z_fs (h : Nat → Nat) (ci : Nat) (f : Nat → Option Nat) (x : Nat → Int32) : List Value := (List.range (z_nf ci)).map fun j => bif z_rf ci j then va_rf ((f j).map h) else .int (x j)
theorem z_set_int {h : Nat → Nat} {ci k : Nat} {f : Nat → Option Nat} {x : Nat → Int32} {v : Int32} (hr : z_rf ci k = false) : (z_fs h ci f x).set k (.int v) = z_fs h ci f (va_up x k v) := by
  unfold z_fs
  rw [z_rset]
  apply List.map_congr_left
  intro j _
  by_cases hj : j = k
  · subst hj; simp [hr, va_up]
  · simp [hj, va_up]
theorem z_set_ref {h : Nat → Nat} {ci k o : Nat} {f : Nat → Option Nat} {x : Nat → Int32} (hr : z_rf ci k = true) : (z_fs h ci f x).set k (.ref (h o)) = z_fs h ci (va_up f k (some o)) x := by
  unfold z_fs
  rw [z_rset]
  apply List.map_congr_left
  intro j _
  by_cases hj : j = k
  · subst hj; simp [hr, va_up, va_rf]
  · simp [hj, va_up]
theorem z_cell {dA : Nat → ClassId} {h : Nat → Nat} {n : Nat} {ρ : Nat → Nat → Option Nat} {σ : Nat → Nat → Int32} {τ : Nat → Nat → Int64} {i : Nat} {k : Nat × Nat} (hi : i < n) (hk : z_k i = k) : (z_ws dA h (n, ρ, σ, τ))[i]? = some (h i, z_ent dA h k (ρ i) (σ i) (τ i)) := by
  subst hk
  exact z_ws_get (X := (n, ρ, σ, τ)) hi
theorem z_wI {dA : Nat → ClassId} {h : Nat → Nat} {n : Nat} {ρ : Nat → Nat → Option Nat} {σ : Nat → Nat → Int32} {τ : Nat → Nat → Int64} {i j : Nat} {k : Nat × Nat} {x : Int32} {E : va_E} (hk : z_k i = k) (hE : z_ent dA h k (ρ i) (va_up (σ i) j x) (τ i) = E) : (z_ws dA h (n, ρ, σ, τ)).set i (h i, E) = z_ws dA h (n, ρ, z_up σ i j x, τ) := by
  refine z_ws_set (X := (n, ρ, σ, τ)) (X' := (n, ρ, z_up σ i j x, τ)) rfl ?_ (fun a ha => ⟨rfl, z_up_ne σ j x ha, rfl⟩)
  show z_ent dA h (z_k i) (ρ i) (z_up σ i j x i) (τ i) = E
  rw [hk, z_up_row, hE]
theorem z_wR {dA : Nat → ClassId} {h : Nat → Nat} {n : Nat} {ρ : Nat → Nat → Option Nat} {σ : Nat → Nat → Int32} {τ : Nat → Nat → Int64} {i j : Nat} {k : Nat × Nat} {o : Option Nat} {E : va_E} (hk : z_k i = k) (hE : z_ent dA h k (va_up (ρ i) j o) (σ i) (τ i) = E) : (z_ws dA h (n, ρ, σ, τ)).set i (h i, E) = z_ws dA h (n, z_up ρ i j o, σ, τ) := by
  refine z_ws_set (X := (n, ρ, σ, τ)) (X' := (n, z_up ρ i j o, σ, τ)) rfl ?_ (fun a ha => ⟨z_up_ne ρ j o ha, rfl, rfl⟩)
  show z_ent dA h (z_k i) (z_up ρ i j o i) (σ i) (τ i) = E
  rw [hk, z_up_row, hE]
theorem z_wL {dA : Nat → ClassId} {h : Nat → Nat} {n : Nat} {ρ : Nat → Nat → Option Nat} {σ : Nat → Nat → Int32} {τ : Nat → Nat → Int64} {i j : Nat} {k : Nat × Nat} {x : Int64} {E : va_E} (hk : z_k i = k) (hE : z_ent dA h k (ρ i) (σ i) (va_up (τ i) j x) = E) : (z_ws dA h (n, ρ, σ, τ)).set i (h i, E) = z_ws dA h (n, ρ, σ, z_up τ i j x) := by
  refine z_ws_set (X := (n, ρ, σ, τ)) (X' := (n, ρ, σ, z_up τ i j x)) rfl ?_ (fun a ha => ⟨rfl, rfl, z_up_ne τ j x ha⟩)
  show z_ent dA h (z_k i) (ρ i) (σ i) (z_up τ i j x i) = E
  rw [hk, z_up_row, hE]
section ZW
variable {D : va_G} {A : Nat → Prop} {H1 : Heap} {dA : Nat → ClassId} {h : Nat → Nat} {n : Nat} {ρ : Nat → Nat → Option Nat} {σ : Nat → Nat → Int32} {τ : Nat → Nat → Int64} {i j : Nat} {k : Nat × Nat} {E : va_E}
theorem z_PI {x : Int32} (hk : z_k i = k) (hE : z_ent dA h k (ρ i) (va_up (σ i) j x) (τ i) = E) (hP : va_P D vwCl ((z_ws dA h (n, ρ, σ, τ)).set i (h i, E)) H1) (hD : va_D A ((z_ws dA h (n, ρ, σ, τ)).set i (h i, E))) : va_P D vwCl (z_ws dA h (n, ρ, z_up σ i j x, τ)) H1 ∧ va_D A (z_ws dA h (n, ρ, z_up σ i j x, τ)) := by
  rw [z_wI hk hE] at hP hD
  exact ⟨hP, hD⟩
theorem z_PR {o : Option Nat} (hk : z_k i = k) (hE : z_ent dA h k (va_up (ρ i) j o) (σ i) (τ i) = E) (hP : va_P D vwCl ((z_ws dA h (n, ρ, σ, τ)).set i (h i, E)) H1) (hD : va_D A ((z_ws dA h (n, ρ, σ, τ)).set i (h i, E))) : va_P D vwCl (z_ws dA h (n, z_up ρ i j o, σ, τ)) H1 ∧ va_D A (z_ws dA h (n, z_up ρ i j o, σ, τ)) := by
  rw [z_wR hk hE] at hP hD
  exact ⟨hP, hD⟩
theorem z_PL {x : Int64} (hk : z_k i = k) (hE : z_ent dA h k (ρ i) (σ i) (va_up (τ i) j x) = E) (hP : va_P D vwCl ((z_ws dA h (n, ρ, σ, τ)).set i (h i, E)) H1) (hD : va_D A ((z_ws dA h (n, ρ, σ, τ)).set i (h i, E))) : va_P D vwCl (z_ws dA h (n, ρ, σ, z_up τ i j x)) H1 ∧ va_D A (z_ws dA h (n, ρ, σ, z_up τ i j x)) := by
  rw [z_wL hk hE] at hP hD
  exact ⟨hP, hD⟩
end ZW
/-- a row of a cell -/
def z_row (σ : Nat → Nat → Int32) (i : Nat) (f : Nat → Int32) : Nat → Nat → Int32 := fun a => if a = i then f else σ a
theorem z_wRow {dA : Nat → ClassId} {h : Nat → Nat} {n : Nat} {ρ : Nat → Nat → Option Nat} {σ : Nat → Nat → Int32} {τ : Nat → Nat → Int64} {i : Nat} {k : Nat × Nat} {f : Nat → Int32} {E : va_E} (hk : z_k i = k) (hE : z_ent dA h k (ρ i) f (τ i) = E) : (z_ws dA h (n, ρ, σ, τ)).set i (h i, E) = z_ws dA h (n, ρ, z_row σ i f, τ) := by
  refine z_ws_set (X := (n, ρ, σ, τ)) (X' := (n, ρ, z_row σ i f, τ)) rfl ?_ (fun a ha => ⟨rfl, by simp [z_row, ha], rfl⟩)
  show z_ent dA h (z_k i) (ρ i) (z_row σ i f i) (τ i) = E
  rw [hk, show z_row σ i f i = f by simp [z_row], hE]
theorem z_sl.tl {n : Nat} {v : Value} {st : List Value} (h : z_sl n (v :: st)) : z_sl n st := fun w hw => h w (List.mem_cons_of_mem _ hw)
theorem z_sl.cons {n : Nat} {v : Value} {st : List Value} (hv : z_sv n v) (h : z_sl n st) : z_sl n (v :: st) := fun w hw => (List.mem_cons.mp hw).elim (fun q => q ▸ hv) (h w)
theorem z_sl.hd {n : Nat} {v : Value} {st : List Value} (h : z_sl n (v :: st)) : z_sv n v := h v List.mem_cons_self
section ZF
variable {M : z_M} {d mc ms rc rs : Nat} {r : Option Value} {X1 : z_X} {n : Nat} {ρ : Nat → Nat → Option Nat} {σ : Nat → Nat → Int32} {τ : Nat → Nat → Int64} {pc : Nat} {lv : List (Option Value)} {st : List Value}
theorem z_getI {idx ci k i : Nat} {x : Int32} (hd : decode M.2.1 pc = .ok (.getfield idx, 3)) (hl : z_fl M.1.cls idx ci k) (hr : z_rf ci k = false) (hk : z_k i = (0, ci)) (hx : σ i k = x) (kk : z_V M d mc ms rc rs r X1 (pc + 3) lv (.int x :: st) (n, ρ, σ, τ)) : z_V M d mc ms rc rs r X1 pc lv (.ref i :: st) (n, ρ, σ, τ) := by
  intro p l e s m args below meth c D dA A n0 h0 h H ls locs cells slots C hat hS hlv hst hc hs
  have he := z_cell (dA := dA) (h := h) (ρ := ρ) (σ := σ) (τ := τ) hst.hd.of hk
  obtain ⟨hx', hb, hml, hret, hown, hts, hlk, hnm, hK, hA, hnw, hstt⟩ := id C
  refine va_get hx' hb hts (z_uw ci hl.1) hown hK hat.2.2.2.1 i (fs := z_fs h ci (ρ i) (σ i)) he (z_cl ci hl.1) k hl.2.1 (hts _ hl.2.2) (fun x h => h) (v := .int x) ?_ hd (kk p l e s m args below meth c D dA A n0 h0 h H ls locs cells slots C hat hS hlv (hst.tl.cons z_sv.int) hc hs)
  unfold z_fs
  rw [z_rget _ hl.2.1, hr]
  exact congrArg (fun z => some (Value.int z)) hx
theorem z_getR {idx ci k i o : Nat} (hd : decode M.2.1 pc = .ok (.getfield idx, 3)) (hl : z_fl M.1.cls idx ci k) (hr : z_rf ci k = true) (hk : z_k i = (0, ci)) (ho : ρ i k = some o) (kk : z_V M d mc ms rc rs r X1 (pc + 3) lv (.ref o :: st) (n, ρ, σ, τ)) : z_V M d mc ms rc rs r X1 pc lv (.ref i :: st) (n, ρ, σ, τ) := by
  intro p l e s m args below meth c D dA A n0 h0 h H ls locs cells slots C hat hS hlv hst hc hs
  have he := z_cell (dA := dA) (h := h) (ρ := ρ) (σ := σ) (τ := τ) hst.hd.of hk
  obtain ⟨hx', hb, hml, hret, hown, hts, hlk, hnm, hK, hA, hnw, hstt⟩ := id C
  have hon : o < n := hat.2.2.1 i hst.hd.of k o ho
  refine va_get hx' hb hts (z_uw ci hl.1) hown hK hat.2.2.2.1 i (fs := z_fs h ci (ρ i) (σ i)) he (z_cl ci hl.1) k hl.2.1 (hts _ hl.2.2) (fun x h => h) (v := .ref (h o)) ?_ hd (kk p l e s m args below meth c D dA A n0 h0 h H ls locs cells slots C hat hS hlv (hst.tl.cons (z_sv.mk hon)) hc hs)
  unfold z_fs
  rw [z_rget _ hl.2.1, hr]
  show some (va_rf ((ρ i k).map h)) = _
  rw [ho]
  rfl
theorem z_putI {idx ci k i : Nat} {x : Int32} (hd : decode M.2.1 pc = .ok (.putfield idx, 3)) (hl : z_fl M.1.cls idx ci k) (hfin : (z_T ci k).2.2.2 = false) (hr : z_rf ci k = false) (hfit : z_ty ci k = .int ∨ (z_ty ci k = .boolean ∧ (x = 0 ∨ x = 1))) (hk : z_k i = (0, ci)) (kk : z_V M d mc ms rc rs r X1 (pc + 3) lv st (n, ρ, z_up σ i k x, τ)) : z_V M d mc ms rc rs r X1 pc lv (.int x :: .ref i :: st) (n, ρ, σ, τ) := by
  intro p l e s m args below meth c D dA A n0 h0 h H ls locs cells slots C hat hS hlv hst hc hs
  have he := z_cell (dA := dA) (h := h) (ρ := ρ) (σ := σ) (τ := τ) hst.tl.hd.of hk
  obtain ⟨hx', hb, hml, hret, hown, hts, hlk, hnm, hK, hA, hnw, hstt⟩ := id C
  refine va_put hx' hb hts (z_uw ci hl.1) (z_ty ci) (z_tyok ci hl.1) (z_nm ci hl.1) hown hK hat.2.2.2.1 hat.2.2.2.2 hS i (fs := z_fs h ci (ρ i) (σ i)) he (z_cl ci hl.1) k hl.2.1 (hts _ hl.2.2) (fun x h => h) hfin (v := .int x) (z_tyok ci hl.1 k hl.2.1) (z_fit_int hfit).1 (z_fit_int hfit).2 (by simp [z_fs]; exact hl.2.1) hd ?_
  intro H1 locs1 hP1 hD1 hS1
  rw [z_set_int hr] at hP1 hD1
  obtain ⟨hP1, hD1⟩ := z_PI (j := k) (x := x) hk rfl hP1 hD1
  exact kk p l e s m args below meth c D dA A n0 h0 h H1 ls locs1 cells slots C ⟨hat.1, hat.2.1, hat.2.2.1, hP1, hD1⟩ hS1 hlv hst.tl.tl hc hs
theorem z_scR {i k o : Nat} (h : z_sc (n, ρ, σ, τ)) (ho : o < n) : z_sc (n, z_up ρ i k (some o), σ, τ) := by
  intro a ha b c hc
  have hc : z_up ρ i k (some o) a b = some c := hc
  unfold z_up at hc
  split at hc
  · cases hc; exact ho
  · exact h a ha b c hc
theorem z_putRF {idx ci k i o : Nat} (hd : decode M.2.1 pc = .ok (.putfield idx, 3)) (hl : z_fl M.1.cls idx ci k) (hfin : (z_T ci k).2.2.2 = true) (hr : z_rf ci k = true) (hin : M.1.name = "<init>") (hdc : (z_T ci k).1 = M.1.cls) (hk : z_k i = (0, ci)) (kk : z_V M d mc ms rc rs r X1 (pc + 3) lv st (n, z_up ρ i k (some o), σ, τ)) : z_V M d mc ms rc rs r X1 pc lv (.ref o :: .ref i :: st) (n, ρ, σ, τ) := by
  intro p l e s m args below meth c D dA A n0 h0 h H ls locs cells slots C hat hS hlv hst hc hs
  have he := z_cell (dA := dA) (h := h) (ρ := ρ) (σ := σ) (τ := τ) hst.tl.hd.of hk
  obtain ⟨hx', hb, hml, hret, hown, hts, hlk, hnm, hK, hA, hnw, hstt⟩ := id C
  refine va_putF hx' hb hts (z_uw ci hl.1) (z_ty ci) (z_tyok ci hl.1) (z_nm ci hl.1) hown hK hat.2.2.2.1 hat.2.2.2.2 hS i (fs := z_fs h ci (ρ i) (σ i)) he (z_cl ci hl.1) k hl.2.1 (hts _ hl.2.2) (fun x h => h) hfin (hnm.trans hin) hdc (v := .ref (h o)) (z_tyok ci hl.1 k hl.2.1) (z_fit_ref hr).1 (z_fit_ref hr).2 (by simp [z_fs]; exact hl.2.1) hd ?_
  intro H1 locs1 hP1 hD1 hS1
  rw [z_set_ref hr] at hP1 hD1
  obtain ⟨hP1, hD1⟩ := z_PR (j := k) (o := some o) hk rfl hP1 hD1
  exact kk p l e s m args below meth c D dA A n0 h0 h H1 ls locs1 cells slots C ⟨hat.1, hat.2.1, z_scR hat.2.2.1 hst.hd.of, hP1, hD1⟩ hS1 hlv hst.tl.tl hc hs
theorem z_iald {i len j : Nat} {x y : Int32} (hd : decode M.2.1 pc = .ok (.iaload, 1)) (hk : z_k i = (1, len)) (hx : x = nI j) (hj : j < len) (hy : σ i j = y) (kk : z_V M d mc ms rc rs r X1 (pc + 1) lv (.int y :: st) (n, ρ, σ, τ)) : z_V M d mc ms rc rs r X1 pc lv (.int x :: .ref i :: st) (n, ρ, σ, τ) := by
  intro p l e s m args below meth c D dA A n0 h0 h H ls locs cells slots C hat hS hlv hst hc hs
  have he := z_cell (dA := dA) (h := h) (ρ := ρ) (σ := σ) (τ := τ) hst.tl.hd.of hk
  obtain ⟨hx', hb, hml, hret, hown, hts, hlk, hnm, hK, hA, hnw, hstt⟩ := id C
  obtain ⟨hin, hcl⟩ := z_in hk hx hj
  refine va_iald hx' hb hK hat.2.2.2.1 i 0 (f := σ i) he rfl hin hd ?_
  rw [hcl, hy]
  exact kk p l e s m args below meth c D dA A n0 h0 h H ls locs cells slots C hat hS hlv (hst.tl.tl.cons z_sv.int) hc hs
theorem z_zald {i len j : Nat} {x y : Int32} (hd : decode M.2.1 pc = .ok (.baload, 1)) (hk : z_k i = (2, len)) (hx : x = nI j) (hj : j < len) (hy : σ i j = y) (kk : z_V M d mc ms rc rs r X1 (pc + 1) lv (.int y :: st) (n, ρ, σ, τ)) : z_V M d mc ms rc rs r X1 pc lv (.int x :: .ref i :: st) (n, ρ, σ, τ) := by
  intro p l e s m args below meth c D dA A n0 h0 h H ls locs cells slots C hat hS hlv hst hc hs
  have he := z_cell (dA := dA) (h := h) (ρ := ρ) (σ := σ) (τ := τ) hst.tl.hd.of hk
  obtain ⟨hx', hb, hml, hret, hown, hts, hlk, hnm, hK, hA, hnw, hstt⟩ := id C
  obtain ⟨hin, hcl⟩ := z_in hk hx hj
  refine va_zald hx' hb hK hat.2.2.2.1 i 1 (f := σ i) he rfl hin hd ?_
  rw [hcl, hy]
  exact kk p l e s m args below meth c D dA A n0 h0 h H ls locs cells slots C hat hS hlv (hst.tl.tl.cons z_sv.int) hc hs
theorem z_iast {i len j : Nat} {x y : Int32} (hd : decode M.2.1 pc = .ok (.iastore, 1)) (hk : z_k i = (1, len)) (hx : x = nI j) (hj : j < len) (kk : z_V M d mc ms rc rs r X1 (pc + 1) lv st (n, ρ, z_up σ i j y, τ)) : z_V M d mc ms rc rs r X1 pc lv (.int y :: .int x :: .ref i :: st) (n, ρ, σ, τ) := by
  intro p l e s m args below meth c D dA A n0 h0 h H ls locs cells slots C hat hS hlv hst hc hs
  have he := z_cell (dA := dA) (h := h) (ρ := ρ) (σ := σ) (τ := τ) hst.tl.tl.hd.of hk
  obtain ⟨hx', hb, hml, hret, hown, hts, hlk, hnm, hK, hA, hnw, hstt⟩ := id C
  obtain ⟨hin, hcl⟩ := z_in hk hx hj
  refine va_iast hx' hb hK hat.2.2.2.1 hat.2.2.2.2 hS i 0 (f := σ i) he rfl hin hd ?_
  intro H1 locs1 hP1 hD1 hS1
  rw [hcl] at hP1 hD1
  obtain ⟨hP1, hD1⟩ := z_PI (j := j) (x := y) hk rfl hP1 hD1
  exact kk p l e s m args below meth c D dA A n0 h0 h H1 ls locs1 cells slots C ⟨hat.1, hat.2.1, hat.2.2.1, hP1, hD1⟩ hS1 hlv hst.tl.tl.tl hc hs
theorem z_zast {i len j : Nat} {x y : Int32} (hd : decode M.2.1 pc = .ok (.bastore, 1)) (hk : z_k i = (2, len)) (hx : x = nI j) (hj : j < len) (hy : y = 0 ∨ y = 1) (kk : z_V M d mc ms rc rs r X1 (pc + 1) lv st (n, ρ, z_up σ i j y, τ)) : z_V M d mc ms rc rs r X1 pc lv (.int y :: .int x :: .ref i :: st) (n, ρ, σ, τ) := by
  intro p l e s m args below meth c D dA A n0 h0 h H ls locs cells slots C hat hS hlv hst hc hs
  have he := z_cell (dA := dA) (h := h) (ρ := ρ) (σ := σ) (τ := τ) hst.tl.tl.hd.of hk
  obtain ⟨hx', hb, hml, hret, hown, hts, hlk, hnm, hK, hA, hnw, hstt⟩ := id C
  obtain ⟨hin, hcl⟩ := z_in hk hx hj
  refine va_zast hx' hb hK hat.2.2.2.1 hat.2.2.2.2 hS i 1 (f := σ i) he rfl hin hd ?_
  intro H1 locs1 hP1 hD1 hS1
  rw [hcl, z_nar_b hy] at hP1 hD1
  obtain ⟨hP1, hD1⟩ := z_PI (j := j) (x := y) hk rfl hP1 hD1
  exact kk p l e s m args below meth c D dA A n0 h0 h H1 ls locs1 cells slots C ⟨hat.1, hat.2.1, hat.2.2.1, hP1, hD1⟩ hS1 hlv hst.tl.tl.tl hc hs
theorem z_lald {i len j : Nat} {x : Int32} {y : Int64} (hd : decode M.2.1 pc = .ok (.laload, 1)) (hk : z_k i = (3, len)) (hx : x = nI j) (hj : j < len) (hy : τ i j = y) (kk : z_V M d mc ms rc rs r X1 (pc + 1) lv (.long y :: st) (n, ρ, σ, τ)) : z_V M d mc ms rc rs r X1 pc lv (.int x :: .ref i :: st) (n, ρ, σ, τ) := by
  intro p l e s m args below meth c D dA A n0 h0 h H ls locs cells slots C hat hS hlv hst hc hs
  have he := z_cell (dA := dA) (h := h) (ρ := ρ) (σ := σ) (τ := τ) hst.tl.hd.of hk
  obtain ⟨hx', hb, hml, hret, hown, hts, hlk, hnm, hK, hA, hnw, hstt⟩ := id C
  obtain ⟨hin, hcl⟩ := z_in hk hx hj
  refine va_lald hx' hb hK hat.2.2.2.1 i 2 (f := τ i) he rfl hin hd ?_
  rw [hcl, hy]
  exact kk p l e s m args below meth c D dA A n0 h0 h H ls locs cells slots C hat hS hlv (hst.tl.tl.cons z_sv.long) hc hs
theorem z_last {i len j : Nat} {x : Int32} {y : Int64} (hd : decode M.2.1 pc = .ok (.lastore, 1)) (hk : z_k i = (3, len)) (hx : x = nI j) (hj : j < len) (kk : z_V M d mc ms rc rs r X1 (pc + 1) lv st (n, ρ, σ, z_up τ i j y)) : z_V M d mc ms rc rs r X1 pc lv (.long y :: .int x :: .ref i :: st) (n, ρ, σ, τ) := by
  intro p l e s m args below meth c D dA A n0 h0 h H ls locs cells slots C hat hS hlv hst hc hs
  have he := z_cell (dA := dA) (h := h) (ρ := ρ) (σ := σ) (τ := τ) hst.tl.tl.hd.of hk
  obtain ⟨hx', hb, hml, hret, hown, hts, hlk, hnm, hK, hA, hnw, hstt⟩ := id C
  obtain ⟨hin, hcl⟩ := z_in hk hx hj
  refine va_last hx' hb hK hat.2.2.2.1 hat.2.2.2.2 hS i 2 (f := τ i) he rfl hin hd ?_
  intro H1 locs1 hP1 hD1 hS1
  rw [hcl] at hP1 hD1
  obtain ⟨hP1, hD1⟩ := z_PL (j := j) (x := y) hk rfl hP1 hD1
  exact kk p l e s m args below meth c D dA A n0 h0 h H1 ls locs1 cells slots C ⟨hat.1, hat.2.1, hat.2.2.1, hP1, hD1⟩ hS1 hlv hst.tl.tl.tl hc hs
theorem z_aald {i len j o : Nat} {x : Int32} (hd : decode M.2.1 pc = .ok (.aaload, 1)) (hk : z_k i = (4, len)) (hx : x = nI j) (hj : j < len) (ho : ρ i j = some o) (kk : z_V M d mc ms rc rs r X1 (pc + 1) lv (.ref o :: st) (n, ρ, σ, τ)) : z_V M d mc ms rc rs r X1 pc lv (.int x :: .ref i :: st) (n, ρ, σ, τ) := by
  intro p l e s m args below meth c D dA A n0 h0 h H ls locs cells slots C hat hS hlv hst hc hs
  have he := z_cell (dA := dA) (h := h) (ρ := ρ) (σ := σ) (τ := τ) hst.tl.hd.of hk
  obtain ⟨hx', hb, hml, hret, hown, hts, hlk, hnm, hK, hA, hnw, hstt⟩ := id C
  obtain ⟨hin, hcl⟩ := z_in hk hx hj
  have hon : o < n := hat.2.2.1 i hst.tl.hd.of j o ho
  refine va_aldq hx' hb hK hat.2.2.2.1 i 3 (f := fun j => (ρ i j).map h) he rfl hin hd ?_
  rw [hcl, ho]
  exact kk p l e s m args below meth c D dA A n0 h0 h H ls locs cells slots C hat hS hlv (hst.tl.tl.cons (z_sv.mk hon)) hc hs
theorem z_alen {i k len : Nat} {y : Int32} (hd : decode M.2.1 pc = .ok (.arraylength, 1)) (hk : z_k i = (k, len)) (hkk : k = 1 ∨ k = 2) (hy : nI len = y) (kk : z_V M d mc ms rc rs r X1 (pc + 1) lv (.int y :: st) (n, ρ, σ, τ)) : z_V M d mc ms rc rs r X1 pc lv (.ref i :: st) (n, ρ, σ, τ) := by
  intro p l e s m args below meth c D dA A n0 h0 h H ls locs cells slots C hat hS hlv hst hc hs
  have he := z_cell (dA := dA) (h := h) (ρ := ρ) (σ := σ) (τ := τ) hst.hd.of hk
  obtain ⟨hx', hb, hml, hret, hown, hts, hlk, hnm, hK, hA, hnw, hstt⟩ := id C
  have k2 := kk p l e s m args below meth c D dA A n0 h0 h H ls locs cells slots C hat hS hlv (hst.tl.cons z_sv.int) hc hs
  rcases hkk with rfl | rfl
  · exact va_alen hx' hb hK hat.2.2.2.1 i 0 (x := (len, .inl (σ i))) he rfl hy hd k2
  · exact va_alen hx' hb hK hat.2.2.2.1 i 1 (x := (len, .inl (σ i))) he rfl hy hd k2
theorem z_i2l {x : Int32} {y : Int64} (hd : decode M.2.1 pc = .ok (.i2l, 1)) (hy : x.toInt64 = y) {X : z_X} (kk : z_V M d mc ms rc rs r X1 (pc + 1) lv (.long y :: st) X) : z_V M d mc ms rc rs r X1 pc lv (.int x :: st) X := by
  refine z_pure (fun hst => hst.tl.cons z_sv.long) (fun h hx hb kk => lv_i2l hx hb hd hy kk) kk
theorem z_iret {x : Int32} {X : z_X} (hd : decode M.2.1 pc = .ok (.ireturn, 1)) (ht : M.2.2.2 = some .int) (hr : r = some (.int x)) (hX : X = X1) : z_V M d mc ms rc rs r X1 pc lv [.int x] X := by
  subst hr; subst hX
  intro p l e s m args below meth c D dA A n0 h0 h H ls locs cells slots C hat hS hlv hst hc hs
  obtain ⟨hx', hb, hml, hret, hown, hts, hlk, hnm, hK, hA, hnw, hstt⟩ := id C
  refine W.widen (k := mc) (n := ms) (by omega) (by omega) ?_
  exact W.iret hx' hb (hret.trans ht) (fun t hT hW => ⟨⟨h, rfl, ⟨hat.1, hat.2.1, hat.2.2.1, by rw [hT]; exact hat.2.2.2.1, hat.2.2.2.2⟩, fun v hv => by cases hv; exact z_sv.int⟩, hS.F hT⟩) hS.2.2 hd hlk
theorem z_zret {x : Int32} {X : z_X} (hd : decode M.2.1 pc = .ok (.ireturn, 1)) (ht : M.2.2.2 = some .boolean) (hx : x = 0 ∨ x = 1) (hr : r = some (.int x)) (hX : X = X1) : z_V M d mc ms rc rs r X1 pc lv [.int x] X := by
  subst hr; subst hX
  intro p l e s m args below meth c D dA A n0 h0 h H ls locs cells slots C hat hS hlv hst hc hs
  obtain ⟨hx', hb, hml, hret, hown, hts, hlk, hnm, hK, hA, hnw, hstt⟩ := id C
  refine W.widen (k := mc) (n := ms) (by omega) (by omega) ?_
  exact W.zret hx' hb (hret.trans ht) (by rcases hx with rfl | rfl <;> rfl) (fun t hT hW => ⟨⟨h, rfl, ⟨hat.1, hat.2.1, hat.2.2.1, by rw [hT]; exact hat.2.2.2.1, hat.2.2.2.2⟩, fun v hv => by cases hv; exact z_sv.int⟩, hS.F hT⟩) hS.2.2 hd hlk
theorem z_vret {X : z_X} (hd : decode M.2.1 pc = .ok (.return_, 1)) (ht : M.2.2.2 = none) (hr : r = none) (hX : X = X1) : z_V M d mc ms rc rs r X1 pc lv [] X := by
  subst hr; subst hX
  intro p l e s m args below meth c D dA A n0 h0 h H ls locs cells slots C hat hS hlv hst hc hs
  obtain ⟨hx', hb, hml, hret, hown, hts, hlk, hnm, hK, hA, hnw, hstt⟩ := id C
  refine W.widen (k := mc) (n := ms) (by omega) (by omega) ?_
  exact W.vret hx' hb (hret.trans ht) (fun t hT hW => ⟨⟨h, rfl, ⟨hat.1, hat.2.1, hat.2.2.1, by rw [hT]; exact hat.2.2.2.1, hat.2.2.2.2⟩, fun v hv => by cases hv⟩, hS.F hT⟩) hS.2.2 hd hlk
end ZF
