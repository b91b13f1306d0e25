/-! PART 53: throwing -/
def z_sup : List String := ["java/lang/RuntimeException", "java/lang/Exception"]
def z_ex : List (Nat × Nat × String) := [(73, 77, "java/lang/IllegalArgumentException"), (87, 91, "java/lang/IllegalStateException"), (122, 126, "java/lang/IndexOutOfBoundsException")]
def z_tx : List (Nat × String) := [(75, "no such operation, or none of its operands"), (89, "the program was begun, or the code is full"), (100, "the code is not sound"), (112, "steps are 1 .. 500"), (114, "the program was not begun"), (124, "no such local"), (130, "the stack has no such number"), (142, "no such number is kept"), (169, "no such count"), (171, "no such instruction, or nothing told of it"), (179, "no such trace"), (204, "nothing such is told of a trace")]
def z_xw : List Cond := [.castable "java/lang/IllegalArgumentException" "java/lang/IllegalArgumentException", .castable "java/lang/IllegalStateException" "java/lang/IllegalStateException", .castable "java/lang/IndexOutOfBoundsException" "java/lang/IndexOutOfBoundsException", .declares (Bundle.initS "java/lang/RuntimeException"), .declares (Bundle.initS "java/lang/Exception"), .declares (Bundle.initS "java/lang/Throwable")]
/-- what a throw rests on -/
def z_xs (l : Launch) (U : State) (A : Nat → Prop) (H : Heap) : Prop := l.stackTraces = false ∧ vx_Zq Bundle.tN "UNASSIGNED_STACK" Bundle.steD A U H ∧ vx_Zq Bundle.tN "SUPPRESSED_SENTINEL" Bundle.listD A U H ∧ (∀ q ∈ z_tx, ∃ sa, vk_R "TraceTier" q.1 q.2 sa U) ∧ (∀ w ∈ z_xw, va_Nw w U) ∧ va_Nc "java/lang/IllegalStateException" "java/lang/IllegalArgumentException" U
theorem z_xw_warm {s U : State} (hW : s.WarmedH U.vm) (h : ∀ w ∈ z_xw, va_Nw w s) : ∀ w ∈ z_xw, va_Nw w U := by
  intro w hw
  have h1 := h w hw
  simp only [z_xw, List.mem_cons, List.not_mem_nil, or_false] at hw
  rcases hw with rfl | rfl | rfl | rfl | rfl | rfl
  · exact va_Nw.warmC hW h1
  · exact va_Nw.warmC hW h1
  · exact va_Nw.warmC hW h1
  · exact va_Nw.warmD hW h1
  · exact va_Nw.warmD hW h1
  · exact va_Nw.warmD hW h1
theorem z_xs.warm {l : Launch} {s U : State} {A : Nat → Prop} {H : Heap} (hW : s.WarmedH U.vm) (h : z_xs l s A H) : z_xs l U A H := by
  obtain ⟨h1, h2, h3, h4, h5, h7⟩ := h
  refine ⟨h1, vx_Zq.moved hW.alike h2, vx_Zq.moved hW.alike h3, fun q hq => ?_, z_xw_warm hW h5, va_Nc.moved hW.alike h7⟩
  obtain ⟨sa, h6⟩ := h4 q hq
  exact ⟨sa, vk_R.warm hW h6⟩
theorem z_xs.kept {l : Launch} {U : State} {A : Nat → Prop} {H H1 : Heap} (h : z_xs l U A H) (hq : ∀ a : Nat, a < H.size → ¬ A a → H1[a]? = H[a]?) : z_xs l U A H1 := by
  obtain ⟨h1, h2, h3, h4, h5, h7⟩ := h
  exact ⟨h1, vx_Zq.kept h2 hq, vx_Zq.kept h3 hq, h4, h5, h7⟩
theorem z_xs.narrow {l : Launch} {U : State} {A B : Nat → Prop} {H : Heap} (h : z_xs l U A H) (hAB : ∀ q, B q → A q) : z_xs l U B H := by
  obtain ⟨h1, h2, h3, h4, h5, h7⟩ := h
  exact ⟨h1, vx_Zq.narrow h2 hAB, vx_Zq.narrow h3 hAB, h4, h5, h7⟩
def z_site (x : Nat × Nat × String) : Prop := (Cond.classLink "TraceTier" x.1 x.2.2 ∈ z_G ∧ Cond.initialized x.2.2 ∈ z_G) ∧ Bundle.fit x.2.2 = true ∧ (∀ w ∈ (vx_atS "TraceTier" x.2.1 x.2.2 z_sup).filter goodWord, w ∈ lw_tbl) ∧ (∀ w ∈ (vx_atS "TraceTier" x.2.1 x.2.2 z_sup).filter (fun w => !goodWord w), w ∈ z_xw) ∧ (Cond.classLink "TraceTier" x.1 x.2.2 :: Cond.initialized x.2.2 :: vx_atS "TraceTier" x.2.1 x.2.2 z_sup).all vx_ot = true
theorem z_site0 : z_site (73, 77, "java/lang/IllegalArgumentException") := ⟨⟨List.mem_filter.mpr ⟨by decide +kernel, by decide +kernel⟩, List.mem_filter.mpr ⟨by decide +kernel, by decide +kernel⟩⟩, by decide +kernel, by decide +kernel, by decide +kernel, by decide +kernel⟩
theorem z_site1 : z_site (87, 91, "java/lang/IllegalStateException") := ⟨⟨List.mem_filter.mpr ⟨by decide +kernel, by decide +kernel⟩, List.mem_filter.mpr ⟨by decide +kernel, by decide +kernel⟩⟩, by decide +kernel, by decide +kernel, by decide +kernel, by decide +kernel⟩
theorem z_site2 : z_site (122, 126, "java/lang/IndexOutOfBoundsException") := ⟨⟨List.mem_filter.mpr ⟨by decide +kernel, by decide +kernel⟩, List.mem_filter.mpr ⟨by decide +kernel, by decide +kernel⟩⟩, by decide +kernel, by decide +kernel, by decide +kernel, by decide +kernel⟩
theorem z_sites : ∀ x ∈ z_ex, z_site x := by
  intro x hx
  simp only [z_ex, List.mem_cons, List.not_mem_nil, or_false] at hx
  rcases hx with rfl | rfl | rfl
  · exact z_site0
  · exact z_site1
  · exact z_site2
def z_xc : z_CT := fun l s c A => z_xs l s A s.heap ∧ ∀ x ∈ c.exceptionTable.toList, False
def z_XC (E : String) (X1 : z_X) (D : va_G) (dA : Nat → ClassId) (A : Nat → Prop) (n0 : Nat) (h0 : Nat → Nat) : String → State → State → Prop := fun E' st t => E' = E ∧ (∃ h : Nat → Nat, z_at D dA A n0 h0 h X1 t.heap) ∧ va_F A st t
def z_xq (E : String) (X1 : z_X) (mc ms : Nat) : z_QT := fun below args s D dA A n0 h0 => vx_MQ below (fun _ _ _ _ => False) (z_XC E X1 D dA A n0 h0) args s mc ms A
theorem z_at.grow {D : va_G} {dA : Nat → ClassId} {A : Nat → Prop} {n0 : Nat} {h0 h : Nat → Nat} {X : z_X} {H H1 : Heap} (hat : z_at D dA A n0 h0 h X H) (hk : ∀ q : Nat, q < H.size → H1[q]? = H[q]?) : z_at D dA A n0 h0 h X H1 :=
  ⟨hat.1, hat.2.1, hat.2.2.1, hat.2.2.2.1.kept (fun k q hq => hk q.1 (vx_lt hat.2.2.2.1 hq)), hat.2.2.2.2⟩
/-- throw new E("text") -/
theorem zu_throw {M : z_M} {d mc ms rc rs pc : Nat} {lv : List (Option Value)} {st : List Value} {X : z_X} {ik is ic : Nat} {E text : String} (hx : (ik, ic, E) ∈ z_ex) (ht : (is, text) ∈ z_tx) (hM : M.1.cls = "TraceTier")
    (d0 : decode M.2.1 pc = .ok (.new ik, 3)) (d3 : decode M.2.1 (pc + 3) = .ok (.dup, 1)) (d4 : decode M.2.1 (pc + 4) = .ok (.ldc is, 2)) (d6 : decode M.2.1 (pc + 6) = .ok (.invokespecial ic, 3)) (d9 : decode M.2.1 (pc + 9) = .ok (.athrow, 1))
    (hrc : 1 ≤ rc) (hrs : 6 ≤ rs) (hst0 : (st.map fun v => v.category).sum ≤ 8) : z_U z_xc (z_xq E X mc ms) M (d + 5) mc ms rc rs pc lv st X := by
  intro p l e s m args below meth c D dA A n0 h0 h H ls locs cells slots CX C hat hS hl hst hc hs
  obtain ⟨hx', hb, hml, hret, hown, hts, hlk, hnm, hK, hA, hnw, hstt⟩ := id C
  obtain ⟨⟨hl0, hU, hN, htx, hxw, -⟩, htab⟩ := CX
  obtain ⟨⟨hg1, hg2⟩, hfit, hgood, hbad, hot⟩ := z_sites _ hx
  obtain ⟨sa, hsa⟩ := htx _ ht
  rw [hM] at hown
  refine vx_throwS (A := A) (own := "TraceTier") (cls := E) (names := z_sup) (ik := ik) (is := is) (ic := ic) (text := text) (sa := sa) hx' hb hl0 hown hfit (by decide +kernel) (hts _ hg1) (hts _ hg2) hsa
    (vx_hat (B := z_xw) (fun w hw => hts w (List.mem_filter.mpr ⟨hgood w hw, (List.mem_filter.mp hw).2⟩)) hbad (fun w hw => ?_)) (List.all_eq_true.mp hot) hU hN hS (hl.1.trans hml.symm) d0 d3 d4 d6 d9 (fun x hx => (htab x hx).elim) ?_ ?_ ?_ ?_ hlk
    (fun t _ g1 g2 => ⟨rfl, ⟨h, hat.grow g2⟩, Nat.le_trans hS.1 g1, fun q a1 a2 => (g2 q (Nat.lt_of_lt_of_le a1 hS.1)).trans (hS.2.1 q a1 a2)⟩) hS.2.2 (by omega) (by omega)
  · refine va_Nw.use ?_ (hxw w hw)
    simp only [z_xw, List.mem_cons, List.not_mem_nil, or_false] at hw
    rcases hw with rfl | rfl | rfl | rfl | rfl | rfl <;> rfl
  · show 2 + 3 < d + 5 + 1; omega
  · show ((st.map (z_v h)).map fun v => v.category).sum + (13 * (2 + 1) + 43) ≤ 34 * (d + 5) + 40
    rw [z_cats]
    omega
  · show cells + 1 ≤ mc; omega
  · show slots + 6 ≤ ms; omega
/-- the method, called with these arguments in the picture X, throws an E with the picture X1 -/
def z_XPc (l : Launch) (dA : Nat → ClassId) (D : va_G) (h : Nat → Nat) (sz : Nat) (as : List Value) (X : z_X) : Array Value → State → Prop := fun a U => z_Pc dA D h sz as X a U ∧ z_xs l U (va_A (z_ws dA h X) sz) U.heap
def z_XM (M : z_M) (d mc ms : Nat) (as : List Value) (X : z_X) (E : String) (X1 : z_X) : Prop :=
  ∀ (l : Launch) (D : va_G) (dA : Nat → ClassId) (h : Nat → Nat) (sz : Nat), vx_Met l M.1 (z_w M) (z_rm d mc ms) (z_XPc l dA D h sz as X) (fun _ _ _ _ => False) (z_XC E X1 D dA (va_A (z_ws dA h X) sz) X.1 h) mc ms (va_A (z_ws dA h X) sz)
theorem z_XM.of {M : z_M} {d mc ms : Nat} {as : List Value} {X X1 : z_X} {E : String} {lv : List (Option Value)} (hy : plainName M.1.cls = true) (hlen : as.length ≤ M.2.2.1) (hcat : ∀ v ∈ as, v.category = 1) (hlv : as.map some ++ List.replicate (M.2.2.1 - as.length) none = lv)
    (k : z_U z_xc (z_xq E X1 mc ms) M d mc ms mc ms 0 lv [] X) : z_XM M d mc ms as X E X1 := by
  subst hlv
  intro l D dA h sz
  refine vx_ofW (cc := M.2.1) (maxL := M.2.2.1) (ret := M.2.2.2) hy rfl ?_
  intro p e s m args below meth c s₁ B hml htab hv
  obtain ⟨⟨rfl, hsz, hK, hP, hD0, hsc, hsl, hnw, hst⟩, hxs⟩ := hv
  have hts := atoms_spec (ws := z_w M) B.pre
  have hown : s.vm.findClass M.1.cls = some m.cls := findClass_of_methodNamed B.named
  have hin : meth.name = M.1.name := (name_of_methodNamed B.named B.method).1
  subst hsz
  have hD := hD0.self (sz := s.heap.size)
  have hcat' : ∀ v ∈ as.map (z_v h), v.category = 1 := fun v hv => by
    obtain ⟨w, hw, rfl⟩ := List.mem_map.mp hv
    rw [z_v_cat]
    exact hcat w hw
  have hl := lv_entry (as.map (z_v h)) (n := M.2.2.1) (by rw [z_sl_args hcat', List.length_map]; exact hlen)
  rw [lg_entry_eq]
  generalize (lg_sl (as.map (z_v h)) ++ List.replicate (M.2.2.1 - (lg_sl (as.map (z_v h))).length) Slot.unset).toArray = ls at hl ⊢
  refine k p l e s m _ below meth c D dA (va_A (z_ws dA h X) s.heap.size) X.1 h h s.heap ls [] 0 0 ⟨hxs, htab⟩ ⟨B.exec, B.bytes, hml, B.returns, hown, fun w hw => hts w (List.mem_cons_of_mem _ hw), B.notSynchronized, hin, hK, fun q hq => Or.inr hq, hnw, hst⟩ ⟨Nat.le_refl _, fun _ _ => rfl, hsc, hP, hD⟩ va_S.rf ⟨hl.1, hl.2.1, fun i v hv => ?_⟩ (fun v hv => by cases hv) (by omega) (by omega)
  have hv2 : as[i]? = some v := by
    rw [List.getElem?_append] at hv
    split at hv
    · rw [List.getElem?_map] at hv
      cases hq : as[i]? with
      | none => rw [hq] at hv; cases hv
      | some w => rw [hq] at hv; cases hv; rfl
    · have := List.eq_of_mem_replicate (List.mem_of_getElem? hv)
      cases this
  have hm := List.mem_of_getElem? hv2
  refine ⟨hl.2.2 (i, z_v h v) ?_, hsl v hm, hcat v hm⟩
  have := z_args_mem hcat' 0 i (z_v h v) (by rw [List.getElem?_map, hv2]; rfl)
  rwa [Nat.zero_add] at this
