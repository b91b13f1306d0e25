/-! PART 12: a method's contract out of its walk; calls -/
theorem z_sl_args {vs : List Value} (h : ∀ v ∈ vs, v.category = 1) : (lg_sl vs).length = vs.length := by
  induction vs with
  | nil => rfl
  | cons v vs ih =>
    have h1 := h v List.mem_cons_self
    have h2 := ih (fun w hw => h w (List.mem_cons_of_mem _ hw))
    unfold lg_sl at h2 ⊢
    rw [List.flatMap_cons, List.length_append, h2, if_neg (by omega)]
    simp
    omega
theorem z_args_mem {vs : List Value} (h : ∀ v ∈ vs, v.category = 1) : ∀ (i j : Nat) (v : Value), vs[j]? = some v → (i + j, v) ∈ lv_args i vs := by
  induction vs with
  | nil => intro i j v hj; simp at hj
  | cons w vs ih =>
    intro i j v hj
    have h1 := h w List.mem_cons_self
    unfold lv_args
    rw [if_neg (by omega)]
    cases j with
    | zero => simp at hj; subst hj; exact List.mem_cons_self
    | succ j =>
      have := ih (fun w hw => h w (List.mem_cons_of_mem _ hw)) (i + 1) j v (by simpa using hj)
      rw [show i + (j + 1) = i + 1 + j by omega]
      exact List.mem_cons_of_mem _ this
theorem z_MV.of {M : z_M} {d mc ms : Nat} {as : List Value} {X X1 : z_X} {r : Option Value} {lv : List (Option Value)} (hy : plainName M.1.cls = true) (hlen : as.length ≤ M.2.2.1) (hcat : ∀ v ∈ as, v.category = 1) (hlv : as.map some ++ List.replicate (M.2.2.1 - as.length) none = lv)
    (k : z_V M d mc ms mc ms r X1 0 lv [] X) : z_MV M d mc ms as X r X1 := by
  subst hlv
  intro l D dA h sz
  refine Met.ofW (cc := M.2.1) (maxL := M.2.2.1) (ret := M.2.2.2) hy rfl ?_
  intro p e s m args below meth c s₁ B hml hv
  obtain ⟨rfl, hsz, hK, hP, hD0, hsc, hsl, hnw, hst⟩ := hv
  have hts := atoms_spec (ws := z_w M) B.pre
  have hown : s.vm.findClass M.1.cls = some m.cls := findClass_of_methodNamed B.named
  have hin : meth.name = M.1.name := (name_of_methodNamed B.named B.method).1
  subst hsz
  have hD := hD0.self (sz := s.heap.size)
  have hcat' : ∀ v ∈ as.map (z_v h), v.category = 1 := fun v hv => by
    obtain ⟨w, hw, rfl⟩ := List.mem_map.mp hv
    rw [z_v_cat]
    exact hcat w hw
  have hl := lv_entry (as.map (z_v h)) (n := M.2.2.1) (by rw [z_sl_args hcat', List.length_map]; exact hlen)
  rw [lg_entry_eq]
  generalize (lg_sl (as.map (z_v h)) ++ List.replicate (M.2.2.1 - (lg_sl (as.map (z_v h))).length) Slot.unset).toArray = ls at hl ⊢
  refine k p l e s m _ below meth c D dA (va_A (z_ws dA h X) s.heap.size) X.1 h h s.heap ls [] 0 0 ⟨B.exec, B.bytes, hml, B.returns, hown, fun w hw => hts w (List.mem_cons_of_mem _ hw), B.notSynchronized, hin, hK, fun q hq => Or.inr hq, hnw, hst⟩ ⟨Nat.le_refl _, fun _ _ => rfl, hsc, hP, hD⟩ va_S.rf ⟨hl.1, hl.2.1, fun i v hv => ?_⟩ (fun v hv => by cases hv) (by omega) (by omega)
  have hv2 : as[i]? = some v := by
    rw [List.getElem?_append] at hv
    split at hv
    · rw [List.getElem?_map] at hv
      cases hq : as[i]? with
      | none => rw [hq] at hv; cases hv
      | some w => rw [hq] at hv; cases hv; rfl
    · have := List.eq_of_mem_replicate (List.mem_of_getElem? hv)
      cases this
  have hm := List.mem_of_getElem? hv2
  refine ⟨hl.2.2 (i, z_v h v) ?_, hsl v hm, hcat v hm⟩
  have := z_args_mem hcat' 0 i (z_v h v) (by rw [List.getElem?_map, hv2]; rfl)
  rwa [Nat.zero_add] at this
theorem z_good {L : List Cond} (h : ∀ w ∈ L, w ∈ z_G) : GoodIn z_G L := fun w hw => ⟨h w hw, good_of_word (List.mem_filter.mp (h w hw)).2⟩
def z_pl (M : z_M) (n : Nat) : Prop := (M.1.cls ≠ "java/lang/invoke/MethodHandle" ∧ M.1.cls ≠ "java/lang/invoke/VarHandle" ∧ (parseMethodDescriptor M.1.desc).map (fun d => d.parameters.length) = some n) ∧ M.2.2.1 ≤ 15
def z_cd (M : z_M) : Cond := .code M.1 M.2.1 M.2.2.1 M.2.2.2
def z_lV (own : String) (idx : Nat) (M : z_M) (n : Nat) : Prop := (∀ w ∈ ([.methodLink own idx M.1, .instanceMethod M.1, .selects M.1.cls M.1 M.1, .initialized M.1.cls, z_cd M] : List Cond), w ∈ z_G) ∧ z_pl M n
def z_lS (own : String) (idx : Nat) (M : z_M) (n : Nat) : Prop := (∀ w ∈ ([.methodLink own idx M.1, .static M.1, .initialized M.1.cls, z_cd M] : List Cond), w ∈ z_G) ∧ z_pl M n
def z_lI (own : String) (idx : Nat) (M : z_M) (n : Nat) : Prop := (∀ w ∈ ([.methodLink own idx M.1, .instanceMethod M.1, .initialized M.1.cls, z_cd M] : List Cond), w ∈ z_G) ∧ z_pl M n ∧ M.1.name = "<init>" ∧ M.2.2.2 = none
def z_lN (own : String) (idx : Nat) (M : z_M) (n : Nat) : Prop := Cond.methodLinkNest own idx M.1 "TraceTier" ∈ z_N ∧ (∀ w ∈ ([.instanceMethod M.1, .initialized M.1.cls, z_cd M] : List Cond), w ∈ z_G) ∧ z_pl M n ∧ M.1.name = "<init>" ∧ M.2.2.2 = none
theorem z_cats (h : Nat → Nat) (st : List Value) : ((st.map (z_v h)).map fun v => v.category) = st.map fun v => v.category := by
  rw [List.map_map]
  apply List.map_congr_left
  intro v _
  exact z_v_cat h v
def z_Pc (dA : Nat → ClassId) (D : va_G) (h : Nat → Nat) (sz : Nat) (as : List Value) (X : z_X) : Array Value → State → Prop := va_Pc (as.map (z_v h)) (fun U => U.heap.size = sz ∧ va_K D vwCl (z_tys dA) U ∧ va_P D vwCl (z_ws dA h X) U.heap ∧ va_D (fun _ => True) (z_ws dA h X) ∧ z_sc X ∧ z_sl X.1 as ∧ z_nw U ∧ z_st (va_A (z_ws dA h X) sz) U U.heap)
theorem z_blind {dA : Nat → ClassId} {D : va_G} {h : Nat → Nat} {sz : Nat} {as : List Value} {X : z_X} : FrameBlind (z_Pc dA D h sz as X) := by
  intro a U g mk q
  obtain ⟨q0, q1, qK, qP, qD, qs, ql, qn, qt⟩ := q
  exact ⟨q0, q1, va_K.moved (u := U) (U := U.calling g mk a) (Vm.Alike.refl U.vm) qK, qP, qD, qs, ql, ⟨fun w hw => va_Nw.same (u := U) (U := U.calling g mk a) (by
    have h2 := (List.mem_filter.mp hw).2
    cases w with
    | fieldLinkNest _ _ _ _ _ _ => rfl
    | methodLinkNest _ _ _ _ => rfl
    | _ => simp [z_nest] at h2) rfl (qn.1 w hw), va_AO.moved (u := U) (U := U.calling g mk a) (Vm.Alike.refl U.vm) qn.2⟩, z_st.moved (u := U) (U := U.calling g mk a) (Vm.Alike.refl U.vm) qt⟩
theorem z_sub {M : z_M} {p : Program} {s : State} {m : MethodId} {args : Array Value} {meth : Method} {c : Code} {D : va_G} {dA : Nat → ClassId} {A : Nat → Prop} {n0 : Nat} {h0 h : Nat → Nat} {X : z_X} {H : Heap} {locs : List Loc} (C : z_C M p s m args meth c D dA A) (hat : z_at D dA A n0 h0 h X H) (hS : va_S A s.heap H locs) : ∀ q, va_A (z_ws dA h X) H.size q → A q := by
  obtain ⟨-, -, -, -, -, -, -, -, -, hA, -, -⟩ := C
  intro q hq
  rcases hq with ⟨k, e, hke⟩ | hq
  · exact hat.2.2.2.2.2 k (q, e) hke
  · exact hA q (Nat.le_trans hS.1 hq)
/-- what a callee may take as given -/
theorem z_pre {M : z_M} {p : Program} {s : State} {m : MethodId} {args : Array Value} {meth : Method} {c : Code} {D : va_G} {dA : Nat → ClassId} {A : Nat → Prop} {n0 : Nat} {h0 h : Nat → Nat} {X : z_X} {H : Heap} {locs : List Loc} {as : List Value} (C : z_C M p s m args meth c D dA A) (hat : z_at D dA A n0 h0 h X H) (hS : va_S A s.heap H locs) (hsl : z_sl X.1 as) :
    ∀ U : State, U.heap = H → s.WarmedH U.vm → z_Pc dA D h H.size as X (as.map (z_v h)).toArray U := by
  intro U hU hW
  have hsub := z_sub C hat hS
  obtain ⟨-, -, -, -, -, -, -, -, hK, -, hnw, hst⟩ := C
  refine ⟨rfl, by rw [hU], va_K.moved hW.alike hK, by rw [hU]; exact hat.2.2.2.1, hat.2.2.2.2.weaken (fun _ _ _ _ => trivial), hat.2.2.1, hsl, hnw.warm hW, ?_⟩
  rw [hU]
  exact (z_st.moved hW.alike (hst.kept hS.2.1)).narrow hsub
theorem z_after {M : z_M} {d mc ms rc rs rc' rs' mc' ms' : Nat} {r r' : Option Value} {X X1 X2 : z_X} {pc : Nat} {lv : List (Option Value)} {st st0 : List Value} {p : Program} {l : Launch} {e : Env} {s : State} {m : MethodId} {args a : Array Value} {below : List Frame} {meth : Method} {c : Code} {D : va_G} {dA : Nat → ClassId} {A : Nat → Prop} {n0 : Nat} {h0 h : Nat → Nat} {H : Heap} {ls : Array Slot} {locs : List Loc} {cells slots : Nat}
    (hr : va_Run p l e (z_rm d mc ms) s m args below meth c H locs cells slots mc' ms' (F0 m pc ls st0) (st.map (z_v h)) (z_Qc r' X2 D dA (va_A (z_ws dA h X) H.size) X.1 h a) (va_A (z_ws dA h X) H.size))
    (C : z_C M p s m args meth c D dA A) (hat : z_at D dA A n0 h0 h X H) (hS : va_S A s.heap H locs) (hlv : z_lv M.2.2.1 h X.1 ls lv) (hst : z_sl X.1 st) (hc : cells + rc ≤ mc) (hs : slots + rs ≤ ms) (hb : mc' + rc' ≤ rc ∧ ms' + rs' ≤ rs)
    (kk : z_V M d mc ms rc' rs' r X1 (pc + 3) lv (r'.toList ++ st) X2) : W p l e (z_rm d mc ms) s m args below meth c H locs cells slots (MQ below (z_Qc r X1 D dA A n0 h0) args s mc ms A) (F0 m pc ls st0) := by
  intro T hT Xs
  obtain ⟨v, st₀, t, T', L, e0, X', hL, e1, e2, hq, stp⟩ := hr T hT Xs
  obtain ⟨⟨h1, hv, hat1, hrs⟩, hz, hk⟩ := hq
  cases hv
  rw [e0] at hz hk
  have hsub := z_sub C hat hS
  have hS1 : va_S A s.heap T'.heap (locs ++ L) := ⟨Nat.le_trans hS.1 (by rw [e1]; exact hz), fun q g1 g2 => by
      rw [e1, hk q (Nat.lt_of_lt_of_le g1 hS.1) (fun z => g2 (hsub q z))]
      exact hS.2.1 q g1 g2, fun q hq => by
      rcases List.mem_append.mp hq with g | g
      · exact hS.2.2 q g
      · exact hsub _ (hL q g)⟩
  have hat2 : z_at D dA A n0 h0 h1 X2 T'.heap := ⟨Nat.le_trans hat.1 hat1.1, fun i hi => (hat1.2.1 i (Nat.lt_of_lt_of_le hi hat.1)).trans (hat.2.1 i hi), hat1.2.2.1, by rw [e1]; exact hat1.2.2.2.1, hat1.2.2.2.2.weaken (fun k q _ g => hsub q.1 g)⟩
  have k2 := kk p l e s m args below meth c D dA A n0 h0 h1 T'.heap ls (locs ++ L) (cells + mc') (slots + ms') C hat2 hS1 (hlv.mv hat1.2.1 hat1.1) (fun v hv => by
      rcases List.mem_append.mp hv with g | g
      · exact hrs v (by simpa using g)
      · exact (hst v g).up hat1.1) (by omega) (by omega)
  obtain ⟨t2, a1, b1⟩ := k2 T' rfl X'
  refine ⟨t2, stp t2 ?_, b1⟩
  have e3 : (r'.toList ++ st).map (z_v h1) = (r'.map (z_v h1)).toList ++ st.map (z_v h) := by
    rw [List.map_append, z_vs_eq hat1.2.1 hst]
    cases r' <;> rfl
  rw [e3] at a1
  exact a1
section ZK
variable {M M' : z_M} {d mc ms rc rs rc' rs' mc' ms' : Nat} {r r' : Option Value} {X X1 X2 : z_X} {pc : Nat} {lv : List (Option Value)} {st stk : List Value} {idx na : Nat} {as : List Value} {o ci : Nat}
theorem z_callV (hd : decode M.2.1 pc = .ok (.invokevirtual idx, 3)) (hl : z_lV M.1.cls idx M' na) (hsp : z_MV M' d mc' ms' (.ref o :: as) X r' X2) (hk : z_k o = (0, ci)) (hci : ci < 12 ∧ z_R ci = M'.1.cls) (hstk : as.reverse ++ .ref o :: st = stk) (hn : as.length = na) (hrest : (st.map fun v => v.category).sum ≤ 8) (hb : mc' + rc' ≤ rc ∧ ms' + rs' ≤ rs)
    (kk : z_V M (d + 1) mc ms rc' rs' r X1 (pc + 3) lv (r'.toList ++ st) X2) : z_V M (d + 1) mc ms rc rs r X1 pc lv stk X := by
  subst hstk
  intro p l e s m args below meth c D dA A n0 h0 h H ls locs cells slots C hat hS hlv hst hc hs
  obtain ⟨hx', hb', hml, hret, hown, hts, hlk, hnm, hK, hA, hnw, hstt⟩ := id C
  have hso : z_sl X.1 (.ref o :: as) := fun v hv => hst v (by
    rcases List.mem_cons.mp hv with rfl | hv
    · exact List.mem_append_right _ List.mem_cons_self
    · exact List.mem_append_left _ (List.mem_reverse.mpr hv))
  have hst' : z_sl X.1 st := fun v hv => hst v (List.mem_append_right _ (List.mem_cons_of_mem _ hv))
  obtain ⟨n, ρ, σ, τ⟩ := X
  have he := z_cell (dA := dA) (h := h) (ρ := ρ) (σ := σ) (τ := τ) hso.hd.of hk
  have hw := hl.1
  refine z_after (a := (as.map (z_v h)).toArray) (va_runV (As := as.map (z_v h)) (rest := st.map (z_v h)) (b := h o) (C := M'.1.cls) (n := na) (Pc := z_Pc dA D h H.size (.ref o :: as) (n, ρ, σ, τ)) (Qc := z_Qc r' X2 D dA (va_A (z_ws dA h (n, ρ, σ, τ)) H.size) n h) ⟨hx', hb', hml, hown, hts⟩ (hsp l D dA h H.size) (cwV na hts (z_good ?_) rfl rfl rfl ⟨rfl, hl.2.1⟩ ⟨?_, ?_⟩) ⟨z_blind, ?_, z_pre C hat hS hso⟩ rfl (by rw [List.length_map]; exact hn) hlv.1 (by simp [z_v]) (lv_room (by rw [z_cats]; exact hrest)) hd ⟨?_, ?_⟩) C hat hS hlv hst' hc hs hb kk
  · intro w h2
    rcases List.mem_append.mp h2 with h2 | h2
    · exact hw w (by simp at h2 ⊢; rcases h2 with h2 | h2 | h2 | h2 <;> simp [h2])
    · rcases List.mem_cons.mp h2 with rfl | h2
      · exact hw _ (by simp [z_cd])
      · exact h2
  · show d + 1 + 1 ≤ d + 1 + 1; omega
  · show 8 + (M'.2.2.1 + 11) + (34 * d + 40) ≤ 34 * (d + 1) + 40
    have := hl.2.2
    omega
  · have := va_recv hK hat.2.2.2.1 (z_cl ci hci.1) he
    rwa [hci.2] at this
  · show cells + mc' ≤ mc; omega
  · show slots + ms' ≤ ms; omega
end ZK
