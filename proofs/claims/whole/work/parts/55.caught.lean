/-! PART 55: the links of the law; methods with handlers; catching -/
abbrev M_L_add : z_M := (yL_add, cL_add, 5, (some .int))
theorem pn_L_add : plainName M_L_add.1.cls = true := by decide +kernel
abbrev H_L_add : List (Nat × Nat × Nat × Nat) := [(0, 10, 13, 13), (0, 10, 17, 15)]
abbrev M_L_begin : z_M := (yL_begin, cL_begin, 6, (some .int))
theorem pn_L_begin : plainName M_L_begin.1.cls = true := by decide +kernel
abbrev H_L_begin : List (Nat × Nat × Nat × Nat) := [(0, 19, 22, 13)]
abbrev M_L_count : z_M := (yL_count, cL_count, 4, (some .int))
theorem pn_L_count : plainName M_L_count.1.cls = true := by decide +kernel
abbrev H_L_count : List (Nat × Nat × Nat × Nat) := [(0, 9, 12, 28)]
abbrev M_L_local : z_M := (yL_local, cL_local, 4, (some .int))
theorem pn_L_local : plainName M_L_local.1.cls = true := by decide +kernel
abbrev H_L_local : List (Nat × Nat × Nat × Nat) := [(0, 9, 12, 28)]
abbrev M_L_out : z_M := (yL_out, cL_out, 4, (some .int))
theorem pn_L_out : plainName M_L_out.1.cls = true := by decide +kernel
abbrev H_L_out : List (Nat × Nat × Nat × Nat) := [(0, 9, 12, 28)]
abbrev M_L_place : z_M := (yL_place, cL_place, 5, (some .int))
theorem pn_L_place : plainName M_L_place.1.cls = true := by decide +kernel
abbrev H_L_place : List (Nat × Nat × Nat × Nat) := [(0, 10, 13, 28)]
abbrev M_L_run : z_M := (yL_run, cL_run, 4, (some .int))
theorem pn_L_run : plainName M_L_run.1.cls = true := by decide +kernel
abbrev H_L_run : List (Nat × Nat × Nat × Nat) := [(0, 9, 12, 13), (0, 9, 15, 15)]
abbrev M_L_top : z_M := (yL_top, cL_top, 4, (some .int))
theorem pn_L_top : plainName M_L_top.1.cls = true := by decide +kernel
abbrev H_L_top : List (Nat × Nat × Nat × Nat) := [(0, 9, 12, 28)]
abbrev M_L_trace : z_M := (yL_trace, cL_trace, 5, (some .int))
theorem pn_L_trace : plainName M_L_trace.1.cls = true := by decide +kernel
abbrev H_L_trace : List (Nat × Nat × Nat × Nat) := [(0, 10, 13, 28)]
def z_lH (own : String) (idx : Nat) (M : z_M) (hh : List (Nat × Nat × Nat × Nat)) (n : Nat) : Prop := (∀ w ∈ ([.methodLink own idx M.1, .static M.1, .initialized M.1.cls, .codeWith M.1 M.2.1 M.2.2.1 M.2.2.2 hh] : List Cond), w ∈ z_G) ∧ z_pl M n
theorem ml_L_7 : z_lV RL 7 M_X10_add 2 := by unfold z_lV z_pl; decide +kernel
theorem ml_L_17 : z_lV RL 17 M_X10_begin 3 := by unfold z_lV z_pl; decide +kernel
theorem ml_L_21 : z_lV RL 21 M_X10_run 1 := by unfold z_lV z_pl; decide +kernel
theorem ml_L_25 : z_lV RL 25 M_X10_local 1 := by unfold z_lV z_pl; decide +kernel
theorem ml_L_30 : z_lV RL 30 M_X10_top 1 := by unfold z_lV z_pl; decide +kernel
theorem ml_L_33 : z_lV RL 33 M_X10_out 1 := by unfold z_lV z_pl; decide +kernel
theorem ml_L_36 : z_lV RL 36 M_X10_count 1 := by unfold z_lV z_pl; decide +kernel
theorem ml_L_39 : z_lV RL 39 M_X10_place 2 := by unfold z_lV z_pl; decide +kernel
theorem ml_L_42 : z_lV RL 42 M_X10_trace 2 := by unfold z_lV z_pl; decide +kernel
theorem ml_L_45 : z_lI RL 45 M_X10_init 0 := by unfold z_lI z_pl; decide +kernel
theorem ml_L_48 : z_lI RL 48 M_X11_init 0 := by unfold z_lI z_pl; decide +kernel
theorem ml_L_49 : z_lH RL 49 M_L_add H_L_add 4 := by unfold z_lH z_pl; decide +kernel
theorem ml_L_54 : z_lV RL 54 M_X11_add 2 := by unfold z_lV z_pl; decide +kernel
theorem ml_L_55 : z_lV RL 55 M_X11_thrown 0 := by unfold z_lV z_pl; decide +kernel
theorem ml_L_59 : z_lH RL 59 M_L_begin H_L_begin 5 := by unfold z_lH z_pl; decide +kernel
theorem ml_L_62 : z_lV RL 62 M_X11_begin 3 := by unfold z_lV z_pl; decide +kernel
theorem ml_L_63 : z_lH RL 63 M_L_run H_L_run 3 := by unfold z_lH z_pl; decide +kernel
theorem ml_L_66 : z_lV RL 66 M_X11_run 1 := by unfold z_lV z_pl; decide +kernel
theorem ml_L_67 : z_lV RL 67 M_X10_clear 0 := by unfold z_lV z_pl; decide +kernel
theorem ml_L_70 : z_lV RL 70 M_X11_clear 0 := by unfold z_lV z_pl; decide +kernel
theorem ml_L_71 : z_lH RL 71 M_L_local H_L_local 3 := by unfold z_lH z_pl; decide +kernel
theorem ml_L_73 : z_lV RL 73 M_X11_local 1 := by unfold z_lV z_pl; decide +kernel
theorem ml_L_74 : z_lH RL 74 M_L_top H_L_top 3 := by unfold z_lH z_pl; decide +kernel
theorem ml_L_76 : z_lV RL 76 M_X11_top 1 := by unfold z_lV z_pl; decide +kernel
theorem ml_L_77 : z_lV RL 77 M_X10_outs 0 := by unfold z_lV z_pl; decide +kernel
theorem ml_L_80 : z_lV RL 80 M_X11_outs 0 := by unfold z_lV z_pl; decide +kernel
theorem ml_L_81 : z_lH RL 81 M_L_out H_L_out 3 := by unfold z_lH z_pl; decide +kernel
theorem ml_L_83 : z_lV RL 83 M_X11_out 1 := by unfold z_lV z_pl; decide +kernel
theorem ml_L_84 : z_lH RL 84 M_L_count H_L_count 3 := by unfold z_lH z_pl; decide +kernel
theorem ml_L_86 : z_lV RL 86 M_X11_count 1 := by unfold z_lV z_pl; decide +kernel
theorem ml_L_87 : z_lH RL 87 M_L_place H_L_place 4 := by unfold z_lH z_pl; decide +kernel
theorem ml_L_89 : z_lV RL 89 M_X11_place 2 := by unfold z_lV z_pl; decide +kernel
theorem ml_L_90 : z_lH RL 90 M_L_trace H_L_trace 4 := by unfold z_lH z_pl; decide +kernel
theorem ml_L_92 : z_lV RL 92 M_X11_trace 2 := by unfold z_lV z_pl; decide +kernel
theorem cl_L_13 : Cond.classLink RL 13 "java/lang/IllegalArgumentException" ∈ z_G := List.mem_filter.mpr ⟨by decide +kernel, by decide +kernel⟩
theorem cl_L_15 : Cond.classLink RL 15 "java/lang/IllegalStateException" ∈ z_G := List.mem_filter.mpr ⟨by decide +kernel, by decide +kernel⟩
theorem cl_L_28 : Cond.classLink RL 28 "java/lang/IndexOutOfBoundsException" ∈ z_G := List.mem_filter.mpr ⟨by decide +kernel, by decide +kernel⟩
def z_wh (M : z_M) (hh : List (Nat × Nat × Nat × Nat)) : List Cond := .codeWith M.1 M.2.1 M.2.2.1 M.2.2.2 hh :: z_G
def z_hc (hh : List (Nat × Nat × Nat × Nat)) : z_CT := fun l s c A => z_xs l s A s.heap ∧ c.exceptionTable.toList = tableOf hh
def z_q0 (r : Option Value) (X1 : z_X) (mc ms : Nat) : z_QT := fun below args s D dA A n0 h0 => MQ below (z_Qc r X1 D dA A n0 h0) args s mc ms A
theorem zu_of {Cx : z_CT} {M : z_M} {d mc ms rc rs : Nat} {r : Option Value} {X1 X : z_X} {pc : Nat} {lv : List (Option Value)} {st : List Value} (k : z_V M d mc ms rc rs r X1 pc lv st X) : z_U Cx (z_q0 r X1 mc ms) M d mc ms rc rs pc lv st X :=
  fun p l e s m args below meth c D dA A n0 h0 h H ls locs cells slots _ C => k p l e s m args below meth c D dA A n0 h0 h H ls locs cells slots C
/-- a method with handlers, called with these arguments in the picture X, returns r with the picture X1 -/
def z_HV (M : z_M) (hh : List (Nat × Nat × Nat × Nat)) (d mc ms : Nat) (as : List Value) (X : z_X) (r : Option Value) (X1 : z_X) : Prop :=
  ∀ (l : Launch) (D : va_G) (dA : Nat → ClassId) (h : Nat → Nat) (sz : Nat), Met l M.1 (z_wh M hh) (z_rm d mc ms) (z_XPc l dA D h sz as X) (z_Qc r X1 D dA (va_A (z_ws dA h X) sz) X.1 h) mc ms (va_A (z_ws dA h X) sz)
theorem z_HV.of {M : z_M} {hh : List (Nat × Nat × Nat × Nat)} {d mc ms : Nat} {as : List Value} {X X1 : z_X} {r : Option Value} {lv : List (Option Value)} (hy : plainName M.1.cls = true) (hlen : as.length ≤ M.2.2.1) (hcat : ∀ v ∈ as, v.category = 1) (hlv : as.map some ++ List.replicate (M.2.2.1 - as.length) none = lv)
    (k : z_U (z_hc hh) (z_q0 r X1 mc ms) M d mc ms mc ms 0 lv [] X) : z_HV M hh d mc ms as X r X1 := by
  subst hlv
  intro l D dA h sz
  refine va_MetW (cc := M.2.1) (maxL := M.2.2.1) (ret := M.2.2.2) (hh := hh) hy rfl ?_
  intro p e s m args below meth c s₁ B hml hv
  obtain ⟨⟨rfl, hsz, hK, hP, hD0, hsc, hsl, hnw, hst⟩, hxs⟩ := hv
  have hts := atoms_spec (ws := z_wh M hh) B.pre
  have htab := vx_table (x := M.1) B (hts _ List.mem_cons_self)
  have hown : s.vm.findClass M.1.cls = some m.cls := findClass_of_methodNamed B.named
  have hin : meth.name = M.1.name := (name_of_methodNamed B.named B.method).1
  subst hsz
  have hD := hD0.self (sz := s.heap.size)
  have hcat' : ∀ v ∈ as.map (z_v h), v.category = 1 := fun v hv => by
    obtain ⟨w, hw, rfl⟩ := List.mem_map.mp hv
    rw [z_v_cat]
    exact hcat w hw
  have hl := lv_entry (as.map (z_v h)) (n := M.2.2.1) (by rw [z_sl_args hcat', List.length_map]; exact hlen)
  rw [lg_entry_eq]
  generalize (lg_sl (as.map (z_v h)) ++ List.replicate (M.2.2.1 - (lg_sl (as.map (z_v h))).length) Slot.unset).toArray = ls at hl ⊢
  refine k p l e s m _ below meth c D dA (va_A (z_ws dA h X) s.heap.size) X.1 h h s.heap ls [] 0 0 ⟨hxs, htab⟩ ⟨B.exec, B.bytes, hml, B.returns, hown, fun w hw => hts w (List.mem_cons_of_mem _ hw), B.notSynchronized, hin, hK, fun q hq => Or.inr hq, hnw, hst⟩ ⟨Nat.le_refl _, fun _ _ => rfl, hsc, hP, hD⟩ va_S.rf ⟨hl.1, hl.2.1, fun i v hv => ?_⟩ (fun v hv => by cases hv) (by omega) (by omega)
  have hv2 : as[i]? = some v := by
    rw [List.getElem?_append] at hv
    split at hv
    · rw [List.getElem?_map] at hv
      cases hq : as[i]? with
      | none => rw [hq] at hv; cases hv
      | some w => rw [hq] at hv; cases hv; rfl
    · have := List.eq_of_mem_replicate (List.mem_of_getElem? hv)
      cases this
  have hm := List.mem_of_getElem? hv2
  refine ⟨hl.2.2 (i, z_v h v) ?_, hsl v hm, hcat v hm⟩
  have := z_args_mem hcat' 0 i (z_v h v) (by rw [List.getElem?_map, hv2]; rfl)
  rwa [Nat.zero_add] at this
theorem z_lv.drop {nL n i : Nat} {h : Nat → Nat} {ls ls' : Array Slot} {lv : List (Option Value)} {x : Nat} (H : z_lv nL h n ls lv)
    (h' : lv_has ls' nL ((i, Value.ref x) :: (z_L h lv).filter (fun q => !(q.1 == i) && !(q.1 + 1 == i && q.2.category == 2)))) : z_lv nL h n ls' (lv.set i none) := by
  refine ⟨h'.1, h'.2.1, fun j w hj => ?_⟩
  by_cases hij : i = j
  · subst hij
    rw [List.getElem?_set] at hj
    simp only [↓reduceIte] at hj
    split at hj <;> cases hj
  · rw [List.getElem?_set, if_neg hij] at hj
    obtain ⟨a1, a2, a3⟩ := H.2.2 j w hj
    refine ⟨h'.2.2 (j, z_v h w) (List.mem_cons_of_mem _ (List.mem_filter.mpr ⟨z_L.mem.mpr ⟨w, hj, rfl⟩, ?_⟩)), a2, a3⟩
    have : (z_v h w).category = 1 := by rw [z_v_cat]; exact a3
    simp [this]
    exact fun q => hij q.symm
theorem z_xpre {M : z_M} {p : Program} {l : Launch} {s : State} {m : MethodId} {args : Array Value} {meth : Method} {c : Code} {D : va_G} {dA : Nat → ClassId} {A : Nat → Prop} {n0 : Nat} {h0 h : Nat → Nat} {X : z_X} {H : Heap} {locs : List Loc} {as : List Value} (hxs : z_xs l s A s.heap) (C : z_C M p s m args meth c D dA A) (hat : z_at D dA A n0 h0 h X H) (hS : va_S A s.heap H locs) (hsl : z_sl X.1 as) :
    ∀ U : State, U.heap = H → s.WarmedH U.vm → z_XPc l dA D h H.size as X (as.map (z_v h)).toArray U := by
  intro U hU hW
  refine ⟨z_pre C hat hS hsl U hU hW, ?_⟩
  rw [hU]
  exact (z_xs.warm hW (hxs.kept hS.2.1)).narrow (z_sub C hat hS)
theorem z_xblind {l : Launch} {dA : Nat → ClassId} {D : va_G} {h : Nat → Nat} {sz : Nat} {as : List Value} {X : z_X} : FrameBlind (z_XPc l dA D h sz as X) := by
  intro a U g mk q
  refine ⟨z_blind a U g mk q.1, ?_⟩
  have hW : U.WarmedH (U.calling g mk a).vm := State.WarmedH.refl U
  exact z_xs.warm (U := U.calling g mk a) hW q.2
def z_hit (hh : List (Nat × Nat × Nat × Nat)) (own : String) (pc : Nat) (E : String) (hp : Nat) : Prop := ∃ (pre : List ExceptionTableEntry) (x : ExceptionTableEntry) (suf : List ExceptionTableEntry), tableOf hh = pre ++ x :: suf ∧ (∀ z ∈ pre, covers z pc = false ∨ (z.catchType ≠ 0 ∧ ∃ nm : String, Cond.classLink own z.catchType nm ∈ z_G ∧ E = "java/lang/IllegalStateException" ∧ nm = "java/lang/IllegalArgumentException")) ∧ covers x pc = true ∧ x.catchType ≠ 0 ∧ Cond.classLink own x.catchType E ∈ z_G ∧ Cond.castable E E ∈ z_xw ∧ x.handlerPc = hp
/-- a call that throws, caught here, the exception laid in a local -/
theorem zu_caught {hh : List (Nat × Nat × Nat × Nat)} {Qx : z_QT} {M M' : z_M} {d mc ms rc rs rc' rs' mc' ms' : Nat} {X X2 : z_X} {pc : Nat} {lv : List (Option Value)} {st stk : List Value} {idx na : Nat} {as : List Value} {o ci i hp hpd : Nat} {E : String} (hd : decode M.2.1 pc = .ok (.invokevirtual idx, 3)) (hl : z_lV M.1.cls idx M' na) (hsp : z_XM M' d mc' ms' (.ref o :: as) X E X2) (hit : z_hit hh M.1.cls pc E hp) (ha : decode M.2.1 hp = .ok (.astore i, 2) ∧ hp + 2 = hpd ∨ ∃ k : Fin 4, (k : Nat) = i ∧ decode M.2.1 hp = .ok (.astore_n k, 1) ∧ hp + 1 = hpd) (hi : i < M.2.2.1) (hk : z_k o = (0, ci)) (hci : ci < 12 ∧ z_R ci = M'.1.cls) (hstk : as.reverse ++ .ref o :: st = stk) (hn : as.length = na) (hrest : (st.map fun v => v.category).sum ≤ 8) (hb : mc' + rc' ≤ rc ∧ ms' + rs' ≤ rs)
    (kk : z_U (z_hc hh) Qx M (d + 1) mc ms rc' rs' hpd (lv.set i none) [] X2) : z_U (z_hc hh) Qx M (d + 1) mc ms rc rs pc lv stk X := by
  subst hstk
  intro p l e s m args below meth c D dA A n0 h0 h H ls locs cells slots CX C hat hS hlv hst hc hs
  obtain ⟨hx', hb', hml, hret, hown, hts, hlk, hnm, hK, hA, hnw, hstt⟩ := id C
  obtain ⟨hxs, htab⟩ := id CX
  have hso : z_sl X.1 (.ref o :: as) := fun v hv => hst v (by
    rcases List.mem_cons.mp hv with rfl | hv
    · exact List.mem_append_right _ List.mem_cons_self
    · exact List.mem_append_left _ (List.mem_reverse.mpr hv))
  have hst' : z_sl X.1 st := fun v hv => hst v (List.mem_append_right _ (List.mem_cons_of_mem _ hv))
  obtain ⟨n, ρ, σ, τ⟩ := X
  have he := z_cell (dA := dA) (h := h) (ρ := ρ) (σ := σ) (τ := τ) hso.hd.of hk
  have hw := hl.1
  have hr := vx_runV (p := p) (e := e) (below := below) (meth := meth) (locs := locs) (cells := cells) (slots := slots) (R := z_rm (d + 1) mc ms) (g := F0 m pc ls ((as.reverse ++ .ref o :: st).map (z_v h))) (As := as.map (z_v h)) (rest := st.map (z_v h)) (b := h o) (C := M'.1.cls) (n := na) (Pc := z_XPc l dA D h H.size (.ref o :: as) (n, ρ, σ, τ)) (cc := M.2.1) (nL := M.2.2.1) (Ts := z_G) (own := M.1.cls) (index := idx) (H := H) ⟨hx', hb', hml, hown, hts⟩ (hsp l D dA h H.size) (cwV (bytes := M'.2.1) (maxL := M'.2.2.1) (ret := M'.2.2.2) na hts (z_good (by
    intro w h2
    rcases List.mem_append.mp h2 with h2 | h2
    · exact hw w (by simp at h2 ⊢; rcases h2 with h2 | h2 | h2 | h2 <;> simp [h2])
    · rcases List.mem_cons.mp h2 with rfl | h2
      · exact hw _ (by simp [z_cd])
      · exact h2)) rfl rfl rfl ⟨rfl, hl.2.1⟩ ⟨by show d + 1 + 1 ≤ d + 1 + 1; omega, by
        show 8 + (M'.2.2.1 + 11) + (34 * d + 40) ≤ 34 * (d + 1) + 40
        have := hl.2.2
        omega⟩) ⟨z_xblind, by
        have := va_recv hK hat.2.2.2.1 (z_cl ci hci.1) he
        rwa [hci.2] at this, z_xpre hxs C hat hS hso⟩ rfl (by rw [List.length_map]; exact hn) hlv.1 (by simp [F0, z_v]) (lv_room (by rw [z_cats]; exact hrest)) hd ⟨by show cells + mc' ≤ mc; omega, by show slots + ms' ≤ ms; omega⟩
  intro T hT Xs
  rcases hr T hT Xs with ⟨v, st₀, t, T', L, e0, X', hL, e1, e2, hq, stp⟩ | ⟨q, st₀, t, T', L, E', ce, e0, X', hL, e1, e2, ⟨hE, ⟨h1, hat1⟩, hz, hkk⟩, hce, hcv, hcl, stp⟩
  · exact hq.elim
  · subst hE
    rw [e0] at hz hkk
    have hsub := z_sub C hat hS
    have hS1 : va_S A s.heap T'.heap (locs ++ L) := ⟨Nat.le_trans hS.1 (by rw [e1]; exact hz), fun q g1 g2 => by
        rw [e1, hkk q (Nat.lt_of_lt_of_le g1 hS.1) (fun z => g2 (hsub q z))]
        exact hS.2.1 q g1 g2, fun q hq => by
        rcases List.mem_append.mp hq with g | g
        · exact hS.2.2 q g
        · exact hsub _ (hL q g)⟩
    have hat2 : z_at D dA A n0 h0 h1 X2 T'.heap := ⟨Nat.le_trans hat.1 hat1.1, fun i hi => (hat1.2.1 i (Nat.lt_of_lt_of_le hi hat.1)).trans (hat.2.1 i hi), hat1.2.2.1, by rw [e1]; exact hat1.2.2.2.1, hat1.2.2.2.2.weaken (fun k q _ g => hsub q.1 g)⟩
    have hlv1 := hlv.mv hat1.2.1 hat1.1
    obtain ⟨pre, x, suf, hsplit, hpass, hcov, hct0, hlink, hcast, hhp⟩ := hit
    have hW : vx_W p l e (z_rm (d + 1) mc ms) s m args below meth c T'.heap (locs ++ L) (cells + mc') (slots + ms') (Qx below args s D dA A n0 h0) (F0 m pc ls (st.map (z_v h))) q := by
      refine vx_catch (own := M.1.cls) hown pre x suf (htab.trans hsplit) (fun z hz => ?_) hcov hct0 (hts _ hlink) (va_Nw.use rfl (hxs.2.2.2.2.1 _ hcast)) (by rw [e1]; exact hce) hcv hcl ?_
      · rcases hpass z hz with g | ⟨g1, nm, g2, g3, g4⟩
        · exact Or.inl g
        · refine Or.inr ⟨g1, nm, hts _ g2, ?_⟩
          rw [g3, g4]
          exact hxs.2.2.2.2.2
      · rw [hhp]
        rcases ha with ⟨ha, rfl⟩ | ⟨k, hki, ha, rfl⟩
        · exact lv_astore hx' hb' ha hlv1.has hi rfl (fun ls' h' => kk p l e s m args below meth c D dA A n0 h0 h1 T'.heap ls' (locs ++ L) (cells + mc') (slots + ms') CX C hat2 hS1 (hlv1.drop h') (fun v hv => by cases hv) (by omega) (by omega))
        · exact lv_astore_n hx' hb' ha hki hlv1.has hi rfl (fun ls' h' => kk p l e s m args below meth c D dA A n0 h0 h1 T'.heap ls' (locs ++ L) (cells + mc') (slots + ms') CX C hat2 hS1 (hlv1.drop h') (fun v hv => by cases hv) (by omega) (by omega))
    obtain ⟨t2, a1, b1⟩ := hW T' rfl X'
    exact ⟨t2, stp.trans a1, b1⟩
