/-! PART 14: new cells -/
theorem z_ent_eq {dA : Nat → ClassId} {h h1 : Nat → Nat} {k : Nat × Nat} {f : Nat → Option Nat} {x : Nat → Int32} {t : Nat → Int64} (he : ∀ j i, f j = some i → h1 i = h i) : z_ent dA h1 k f x t = z_ent dA h k f x t := by
  have hm : ∀ j, (f j).map h1 = (f j).map h := fun j => by
    cases hj : f j with
    | none => rfl
    | some i => simp [he j i hj]
  obtain ⟨a, b⟩ := k
  unfold z_ent
  match a with
  | 0 => simp only [hm]
  | 1 => rfl
  | 2 => rfl
  | 3 => rfl
  | a + 4 => simp only [hm]
theorem z_ws_push {dA : Nat → ClassId} {h : Nat → Nat} {n q : Nat} {ρ : Nat → Nat → Option Nat} {σ : Nat → Nat → Int32} {τ : Nat → Nat → Int64} {E : va_E} (hsc : z_sc (n, ρ, σ, τ)) (hn : ρ n = fun _ => none) (hE : z_ent dA h (z_k n) (fun _ => none) (σ n) (τ n) = E) :
    z_ws dA h (n, ρ, σ, τ) ++ [(q, E)] = z_ws dA (va_up h n q) (n + 1, ρ, σ, τ) := by
  unfold z_ws
  show (List.range n).map _ ++ [(q, E)] = (List.range (n + 1)).map _
  rw [z_rpush]
  apply List.map_congr_left
  intro i hi
  have hi := List.mem_range.mp hi
  by_cases hin : i = n
  · subst hin
    simp only [va_up, ↓reduceIte]
    rw [hn, ← hE]
    congr 1
  · have hlt : i < n := by omega
    simp only [va_up, hin, ↓reduceIte]
    congr 1
    exact (z_ent_eq (fun j k hk => by
      have := hsc i hlt j k hk
      have hk : k < n := this
      simp only [va_up]
      rw [if_neg (by omega)])).symm
theorem z_def : ∀ c, c < 12 → ∀ j, j < z_nf c → defaultValue (z_ty c j) = bif z_rf c j then .null else .int 0 := by decide +kernel
theorem z_up_h {h : Nat → Nat} {n q : Nat} : ∀ i, i < n → va_up h n q i = h i := fun i hi => by simp only [va_up]; rw [if_neg (by omega)]
theorem z_sc_up {n : Nat} {ρ : Nat → Nat → Option Nat} {σ : Nat → Nat → Int32} {τ : Nat → Nat → Int64} (hsc : z_sc (n, ρ, σ, τ)) (hn : ρ n = fun _ => none) : z_sc (n + 1, ρ, σ, τ) := by
  intro i hi j k hk
  have hi' : i < n + 1 := hi
  have hk' : ρ i j = some k := hk
  by_cases hin : i = n
  · subst hin
    rw [hn] at hk'
    cases hk'
  · have : k < n := hsc i (show i < n by omega) j k hk'
    show k < n + 1
    omega
section ZN
variable {M : z_M} {d mc ms rc rs rc' rs' : Nat} {r : Option Value} {X1 : z_X} {n : Nat} {ρ : Nat → Nat → Option Nat} {σ : Nat → Nat → Int32} {τ : Nat → Nat → Int64} {pc : Nat} {lv : List (Option Value)} {st : List Value}
theorem z_objInit {idx o : Nat} {X : z_X} (hd : decode M.2.1 pc = .ok (.invokespecial idx, 3)) (hl : ∀ w ∈ ([.methodLink M.1.cls idx Lib.objectInit, .instanceMethod Lib.objectInit, .code Lib.objectInit ⟨#[0xb1]⟩ 1 none] : List Cond), w ∈ z_G) (hst0 : (st.map fun v => v.category).sum ≤ 8) (kk : z_V M d mc ms rc rs r X1 (pc + 3) lv st X) : z_V M d mc ms rc rs r X1 pc lv (.ref o :: st) X := by
  intro p l e s m args below meth c D dA A n0 h0 h H ls locs cells slots C hat hS hlv hst hc hs
  obtain ⟨hx', hb', hml, hret, hown, hts, hlk, hnm, hK, hA, hnw, hstt⟩ := id C
  refine W.objInit hx' hb' hown (hts _ (hl _ (by simp))) (hts _ (hl _ (by simp))) (hts _ (hl _ (by simp))) rfl (hlv.1.trans hml.symm) rfl hd (by show 1 ≤ d + 1; omega) ?_ (kk p l e s m args below meth c D dA A n0 h0 h H ls locs cells slots C hat hS hlv hst.tl hc hs)
  have := lv_room (m := m) (pc := pc) (ls := ls) (rest := (Value.ref o :: st).map (z_v h)) (st := st.map (z_v h)) (by rw [z_cats]; exact hst0)
  show _ + _ + 12 ≤ 34 * d + 40
  omega
theorem z_new {idx ci : Nat} (hd : decode M.2.1 pc = .ok (.new idx, 3)) (hci : ci < 12) (hl : ∀ w ∈ ([.classLink M.1.cls idx (z_R ci), .instantiable (z_R ci) (z_nf ci), .initialized (z_R ci)] : List Cond), w ∈ z_G) (hk : z_k n = (0, ci)) (hρ : ρ n = fun _ => none) (hσ : σ n = fun _ => 0) (hb : 1 + rc' ≤ rc ∧ z_nf ci + rs' ≤ rs)
    (kk : z_V M d mc ms rc' rs' r X1 (pc + 3) lv (.ref n :: st) (n + 1, ρ, σ, τ)) : z_V M d mc ms rc rs r X1 pc lv st (n, ρ, σ, τ) := by
  intro p l e s m args below meth c D dA A n0 h0 h H ls locs cells slots C hat hS hlv hst hc hs
  obtain ⟨hx', hb', hml, hret, hown, hts, hlk, hnm, hK, hA, hnw, hstt⟩ := id C
  refine va_new (ci := ci) (fs := z_fs h ci (fun _ => none) (fun _ => 0)) hx' hb' hts (z_uw ci hci) (z_ty ci) (z_tyok ci hci) hown (hts _ (hl _ (by simp))) (hts _ (hl _ (by simp))) (hts _ (hl _ (by simp))) hK hat.2.2.2.1 hat.2.2.2.2 hS hA (z_cl ci hci) ?_ (by show cells + 1 ≤ mc; omega) (by show slots + z_nf ci ≤ ms; omega) hd ?_
  · intro j hj
    rw [z_def ci hci j hj, vp_V, List.getD_eq_getElem?_getD]
    unfold z_fs
    rw [z_rget _ hj]
    rfl
  · intro q H1 hP1 hD1 hS1
    have ew := z_ws_push (dA := dA) (h := h) (q := q) (E := .inr (ci, z_fs h ci (fun _ => none) (fun _ => 0))) hat.2.2.1 hρ (by rw [hk, hσ]; rfl)
    have kq := kk p l e s m args below meth c D dA A n0 h0 (va_up h n q) H1 ls locs (cells + 1) (slots + z_nf ci) C ⟨Nat.le_succ_of_le hat.1, fun i hi => (z_up_h i (Nat.lt_of_lt_of_le hi hat.1)).trans (hat.2.1 i hi), z_sc_up hat.2.2.1 hρ, ew ▸ hP1, ew ▸ hD1⟩ hS1 (hlv.mv z_up_h (Nat.le_succ n)) (fun v hv => (List.mem_cons.mp hv).elim (fun q => q ▸ z_sv.mk (Nat.lt_succ_self n)) (fun q => (hst v q).up (Nat.le_succ n))) (by omega) (by omega)
    have e3 : (Value.ref n :: st).map (z_v (va_up h n q)) = Value.ref q :: st.map (z_v h) := by
      rw [List.map_cons, z_vs_eq z_up_h hst]
      simp [z_v, va_up]
    rw [e3] at kq
    exact kq
theorem z_arrc {D : va_G} {dA : Nat → ClassId} {s : State} {cA : ClassId} {ty : FieldType} (hK : va_K D vwCl (z_tys dA ++ [(cA, ty)]) s) (i : Nat) (hi : (z_tys dA)[i]? = some (dA i, ty)) (hty : ty = .int ∨ ty = .boolean ∨ ty = .long) : cA = dA i := by
  have h1 := (hK.2 4 (cA, ty) rfl).2
  have h2 := (hK.2 i (dA i, ty) (by rw [List.getElem?_append_left (List.getElem?_eq_some_iff.mp hi).1]; exact hi)).2
  rcases hty with rfl | rfl | rfl <;> exact Option.some.inj (h1.symm.trans h2)
theorem z_newI {N : Nat} {x : Int32} (hd : decode M.2.1 pc = .ok (.newarray .int, 2)) (hl : Cond.arrayClass .int ∈ z_G) (hx : x = nI N) (hk : z_k n = (1, N)) (hρ : ρ n = fun _ => none) (hσ : σ n = fun _ => 0) (hb : 1 + rc' ≤ rc ∧ N + rs' ≤ rs)
    (kk : z_V M d mc ms rc' rs' r X1 (pc + 2) lv (.ref n :: st) (n + 1, ρ, σ, τ)) : z_V M d mc ms rc rs r X1 pc lv (.int x :: st) (n, ρ, σ, τ) := by
  intro p l e s m args below meth c D dA A n0 h0 h H ls locs cells slots C hat hS hlv hst hc hs
  obtain ⟨hx', hb', hml, hret, hown, hts, hlk, hnm, hK, hA, hnw, hstt⟩ := id C
  have hN := z_klen n
  rw [hk] at hN
  have hN : N < 1000 := hN
  subst hx
  refine va_newa (atype := .int) (ty := .int) (a0 := (N, .inl (fun _ => 0))) hx' hb' (hts _ hl) rfl hK hat.2.2.2.1 hat.2.2.2.2 hS hA (fun cA => rfl) (nI_pos (by omega)) (nI_clamp (by omega)) (by show N * 4 ≤ _; omega) (by show cells + 1 ≤ mc; omega) (by show slots + N ≤ ms; omega) hd ?_
  intro q cA H1 hK1 hP1 hD1 hS1
  have hcA : cA = dA 0 := z_arrc hK1 0 rfl (Or.inl rfl)
  subst hcA
  have ew := z_ws_push (dA := dA) (h := h) (q := q) (E := .inl (dA 0, N, .inl (fun _ => 0))) hat.2.2.1 hρ (by rw [hk, hσ]; rfl)
  have kq := kk p l e s m args below meth c D dA A n0 h0 (va_up h n q) H1 ls locs (cells + 1) (slots + N) C ⟨Nat.le_succ_of_le hat.1, fun i hi => (z_up_h i (Nat.lt_of_lt_of_le hi hat.1)).trans (hat.2.1 i hi), z_sc_up hat.2.2.1 hρ, ew ▸ hP1, ew ▸ hD1⟩ hS1 (hlv.mv z_up_h (Nat.le_succ n)) (fun v hv => (List.mem_cons.mp hv).elim (fun q => q ▸ z_sv.mk (Nat.lt_succ_self n)) (fun q => (hst.tl v q).up (Nat.le_succ n))) (by omega) (by omega)
  have e3 : (Value.ref n :: st).map (z_v (va_up h n q)) = Value.ref q :: st.map (z_v h) := by
    rw [List.map_cons, z_vs_eq z_up_h hst.tl]
    simp [z_v, va_up]
  rw [e3] at kq
  exact kq
theorem z_newZ {N : Nat} {x : Int32} (hd : decode M.2.1 pc = .ok (.newarray .boolean, 2)) (hl : Cond.arrayClass .boolean ∈ z_G) (hx : x = nI N) (hk : z_k n = (2, N)) (hρ : ρ n = fun _ => none) (hσ : σ n = fun _ => 0) (hb : 1 + rc' ≤ rc ∧ N + rs' ≤ rs)
    (kk : z_V M d mc ms rc' rs' r X1 (pc + 2) lv (.ref n :: st) (n + 1, ρ, σ, τ)) : z_V M d mc ms rc rs r X1 pc lv (.int x :: st) (n, ρ, σ, τ) := by
  intro p l e s m args below meth c D dA A n0 h0 h H ls locs cells slots C hat hS hlv hst hc hs
  obtain ⟨hx', hb', hml, hret, hown, hts, hlk, hnm, hK, hA, hnw, hstt⟩ := id C
  have hN := z_klen n
  rw [hk] at hN
  have hN : N < 1000 := hN
  subst hx
  refine va_newa (atype := .boolean) (ty := .boolean) (a0 := (N, .inl (fun _ => 0))) hx' hb' (hts _ hl) rfl hK hat.2.2.2.1 hat.2.2.2.2 hS hA (fun cA => rfl) (nI_pos (by omega)) (nI_clamp (by omega)) (by show N * 1 ≤ _; omega) (by show cells + 1 ≤ mc; omega) (by show slots + N ≤ ms; omega) hd ?_
  intro q cA H1 hK1 hP1 hD1 hS1
  have hcA : cA = dA 1 := z_arrc hK1 1 rfl (Or.inr (Or.inl rfl))
  subst hcA
  have ew := z_ws_push (dA := dA) (h := h) (q := q) (E := .inl (dA 1, N, .inl (fun _ => 0))) hat.2.2.1 hρ (by rw [hk, hσ]; rfl)
  have kq := kk p l e s m args below meth c D dA A n0 h0 (va_up h n q) H1 ls locs (cells + 1) (slots + N) C ⟨Nat.le_succ_of_le hat.1, fun i hi => (z_up_h i (Nat.lt_of_lt_of_le hi hat.1)).trans (hat.2.1 i hi), z_sc_up hat.2.2.1 hρ, ew ▸ hP1, ew ▸ hD1⟩ hS1 (hlv.mv z_up_h (Nat.le_succ n)) (fun v hv => (List.mem_cons.mp hv).elim (fun q => q ▸ z_sv.mk (Nat.lt_succ_self n)) (fun q => (hst.tl v q).up (Nat.le_succ n))) (by omega) (by omega)
  have e3 : (Value.ref n :: st).map (z_v (va_up h n q)) = Value.ref q :: st.map (z_v h) := by
    rw [List.map_cons, z_vs_eq z_up_h hst.tl]
    simp [z_v, va_up]
  rw [e3] at kq
  exact kq
theorem z_aast {i len j o ci : Nat} {x : Int32} (hd : decode M.2.1 pc = .ok (.aastore, 1)) (hk : z_k i = (4, len)) (hx : x = nI j) (hj : j < len) (hko : z_k o = (0, 7)) (kk : z_V M d mc ms rc rs r X1 (pc + 1) lv st (n, z_up ρ i j (some o), σ, τ)) : z_V M d mc ms rc rs r X1 pc lv (.ref o :: .int x :: .ref i :: st) (n, ρ, σ, τ) := by
  intro p l e s m args below meth c D dA A n0 h0 h H ls locs cells slots C hat hS hlv hst hc hs
  have he := z_cell (dA := dA) (h := h) (ρ := ρ) (σ := σ) (τ := τ) hst.tl.tl.hd.of hk
  have heo := z_cell (dA := dA) (h := h) (ρ := ρ) (σ := σ) (τ := τ) hst.hd.of hko
  obtain ⟨hx', hb, hml, hret, hown, hts, hlk, hnm, hK, hA, hnw, hstt⟩ := id C
  obtain ⟨hin, hcl⟩ := z_in hk hx hj
  refine va_astq hx' hb hK hat.2.2.2.1 hat.2.2.2.2 hS i 3 o 7 (r := (RX7, TX7, 10)) (f := fun j => (ρ i j).map h) he rfl heo rfl hin hd ?_
  intro H1 locs1 hP1 hD1 hS1
  rw [hcl] at hP1 hD1
  have e4 : va_up (fun j => (ρ i j).map h) j (some (h o)) = fun a => (va_up (ρ i) j (some o) a).map h := by
    funext a
    by_cases ha : a = j <;> simp [va_up, ha]
  rw [e4] at hP1 hD1
  obtain ⟨hP1, hD1⟩ := z_PR (j := j) (o := some o) hk rfl hP1 hD1
  exact kk p l e s m args below meth c D dA A n0 h0 h H1 ls locs1 cells slots C ⟨hat.1, hat.2.1, z_scR hat.2.2.1 hst.hd.of, hP1, hD1⟩ hS1 hlv hst.tl.tl.tl hc hs
theorem z_newQ {idx N : Nat} {x : Int32} (hd : decode M.2.1 pc = .ok (.anewarray idx, 3)) (hl : Cond.classLink M.1.cls idx "TraceTier$Trace" ∈ z_G) (hx : x = nI N) (hk : z_k n = (4, N)) (hρ : ρ n = fun _ => none) (hb : 1 + rc' ≤ rc ∧ N + rs' ≤ rs)
    (kk : z_V M d mc ms rc' rs' r X1 (pc + 3) lv (.ref n :: st) (n + 1, ρ, σ, τ)) : z_V M d mc ms rc rs r X1 pc lv (.int x :: st) (n, ρ, σ, τ) := by
  intro p l e s m args below meth c D dA A n0 h0 h H ls locs cells slots C hat hS hlv hst hc hs
  obtain ⟨hx', hb', hml, hret, hown, hts, hlk, hnm, hK, hA, hnw, hstt⟩ := id C
  have hN := z_klen n
  rw [hk] at hN
  have hN : N < 1000 := hN
  subst hx
  refine va_newq hx' hb' hown (hts _ hl) hnw.2 hK hat.2.2.2.1 hat.2.2.2.2 hS hA (nI_pos (by omega)) (nI_clamp (by omega)) (by omega) (by show cells + 1 ≤ mc; omega) (by show slots + N ≤ ms; omega) hd ?_
  intro q cA H1 hK1 hP1 hD1 hS1
  have hcA : cA = dA 3 := by
    obtain ⟨_, _, _, _, _, h1⟩ := (hK1.2 4 (cA, .object "TraceTier$Trace") rfl).2
    obtain ⟨_, _, _, _, _, h2⟩ := (hK.2 3 (dA 3, .object "TraceTier$Trace") rfl).2
    exact Option.some.inj (h1.symm.trans h2)
  subst hcA
  have ew := z_ws_push (dA := dA) (h := h) (q := q) (E := .inl (dA 3, N, .inr (.inr (.inr (.inr (fun _ => none)))))) hat.2.2.1 hρ (by rw [hk]; rfl)
  have kq := kk p l e s m args below meth c D dA A n0 h0 (va_up h n q) H1 ls locs (cells + 1) (slots + N) C ⟨Nat.le_succ_of_le hat.1, fun i hi => (z_up_h i (Nat.lt_of_lt_of_le hi hat.1)).trans (hat.2.1 i hi), z_sc_up hat.2.2.1 hρ, ew ▸ hP1, ew ▸ hD1⟩ hS1 (hlv.mv z_up_h (Nat.le_succ n)) (fun v hv => (List.mem_cons.mp hv).elim (fun q => q ▸ z_sv.mk (Nat.lt_succ_self n)) (fun q => (hst.tl v q).up (Nat.le_succ n))) (by omega) (by omega)
  have e3 : (Value.ref n :: st).map (z_v (va_up h n q)) = Value.ref q :: st.map (z_v h) := by
    rw [List.map_cons, z_vs_eq z_up_h hst.tl]
    simp [z_v, va_up]
  rw [e3] at kq
  exact kq
end ZN
