/-! PART 13: static calls, constructors, the class's tables, copies, new cells -/
section ZS
variable {M M' : z_M} {d mc ms rc rs rc' rs' mc' ms' : Nat} {r r' : Option Value} {X X1 X2 : z_X} {pc : Nat} {lv : List (Option Value)} {st stk : List Value} {idx na : Nat} {as : List Value} {o ci : Nat}
theorem z_callS (hd : decode M.2.1 pc = .ok (.invokestatic idx, 3)) (hl : z_lS M.1.cls idx M' na) (hsp : z_MV M' d mc' ms' as X r' X2) (hstk : as.reverse ++ st = stk) (hn : as.length = na) (hrest : (st.map fun v => v.category).sum ≤ 8) (hb : mc' + rc' ≤ rc ∧ ms' + rs' ≤ rs)
    (kk : z_V M (d + 1) mc ms rc' rs' r X1 (pc + 3) lv (r'.toList ++ st) X2) : z_V M (d + 1) mc ms rc rs r X1 pc lv stk X := by
  subst hstk
  intro p l e s m args below meth c D dA A n0 h0 h H ls locs cells slots C hat hS hlv hst hc hs
  obtain ⟨hx', hb', hml, hret, hown, hts, hlk, hnm, hK, hA, hnw, hstt⟩ := id C
  have hso : z_sl X.1 as := fun v hv => hst v (List.mem_append_left _ (List.mem_reverse.mpr hv))
  have hst' : z_sl X.1 st := fun v hv => hst v (List.mem_append_right _ hv)
  have hw := hl.1
  refine z_after (a := (as.map (z_v h)).toArray) (va_runS (As := as.map (z_v h)) (rest := st.map (z_v h)) (n := na) (Pc := z_Pc dA D h H.size as X) (Qc := z_Qc r' X2 D dA (va_A (z_ws dA h X) H.size) X.1 h) ⟨hx', hb', hml, hown, hts⟩ (hsp l D dA h H.size) ⟨callB_of na hts (z_good ?_) rfl rfl rfl (hts _ (hw _ (by simp))) (hts _ (hw _ (by simp))) hl.2.1 ⟨?_, ?_⟩, hts _ (hw _ (by simp))⟩ ⟨z_blind, z_pre C hat hS hso⟩ rfl (by rw [List.length_map]; exact hn) hlv.1 (by simp) (lv_room (by rw [z_cats]; exact hrest)) hd ⟨?_, ?_⟩) C hat hS hlv hst' hc hs hb kk
  · intro w h2
    rcases List.mem_cons.mp h2 with rfl | h2
    · exact hw _ (by simp [z_cd])
    · exact h2
  · show d + 1 + 1 ≤ d + 1 + 1; omega
  · show 8 + (M'.2.2.1 + 11) + (34 * d + 40) ≤ 34 * (d + 1) + 40
    have := hl.2.2
    omega
  · show cells + mc' ≤ mc; omega
  · show slots + ms' ≤ ms; omega
theorem z_callI (hd : decode M.2.1 pc = .ok (.invokespecial idx, 3)) (hl : z_lI M.1.cls idx M' na) (hsp : z_MV M' d mc' ms' (.ref o :: as) X r' X2) (hstk : as.reverse ++ .ref o :: st = stk) (hn : as.length = na) (hrest : (st.map fun v => v.category).sum ≤ 8) (hb : mc' + rc' ≤ rc ∧ ms' + rs' ≤ rs)
    (kk : z_V M (d + 1) mc ms rc' rs' r X1 (pc + 3) lv (r'.toList ++ st) X2) : z_V M (d + 1) mc ms rc rs r X1 pc lv stk X := by
  subst hstk
  intro p l e s m args below meth c D dA A n0 h0 h H ls locs cells slots C hat hS hlv hst hc hs
  obtain ⟨hx', hb', hml, hret, hown, hts, hlk, hnm, hK, hA, hnw, hstt⟩ := id C
  have hso : z_sl X.1 (.ref o :: as) := fun v hv => hst v (by
    rcases List.mem_cons.mp hv with rfl | hv
    · exact List.mem_append_right _ List.mem_cons_self
    · exact List.mem_append_left _ (List.mem_reverse.mpr hv))
  have hst' : z_sl X.1 st := fun v hv => hst v (List.mem_append_right _ (List.mem_cons_of_mem _ hv))
  obtain ⟨y, cc, mL, rt⟩ := M'
  obtain ⟨hw, ⟨hpl, hmx⟩, hin, hrt⟩ := hl
  have hrt : rt = none := hrt
  subst hrt
  refine z_after (a := (as.map (z_v h)).toArray) (va_runI (As := as.map (z_v h)) (rest := st.map (z_v h)) (b := h o) (n := na) (Pc := z_Pc dA D h H.size (.ref o :: as) X) (Qc := z_Qc r' X2 D dA (va_A (z_ws dA h X) H.size) X.1 h) ⟨hx', hb', hml, hown, hts⟩ (hsp l D dA h H.size) ⟨callB_of na hts (z_good ?_) rfl rfl rfl (hts _ (hw _ (by simp))) (hts _ (hw _ (by simp))) hpl ⟨?_, ?_⟩, hin, hts _ (hw _ (by simp))⟩ ⟨z_blind, z_pre C hat hS hso⟩ rfl (by rw [List.length_map]; exact hn) hlv.1 (by simp [z_v]) (lv_room (by rw [z_cats]; exact hrest)) hd ⟨?_, ?_⟩) C hat hS hlv hst' hc hs hb kk
  · intro w h2
    rcases List.mem_cons.mp h2 with rfl | h2
    · exact hw _ (by simp [z_cd])
    · exact h2
  · show d + 1 + 1 ≤ d + 1 + 1; omega
  · show 8 + (mL + 11) + (34 * d + 40) ≤ 34 * (d + 1) + 40
    have : mL ≤ 15 := hmx
    omega
  · show cells + mc' ≤ mc; omega
  · show slots + ms' ≤ ms; omega
theorem z_callN (hd : decode M.2.1 pc = .ok (.invokespecial idx, 3)) (hl : z_lN M.1.cls idx M' na) (hsp : z_MV M' d mc' ms' (.ref o :: as) X r' X2) (hstk : as.reverse ++ .ref o :: st = stk) (hn : as.length = na) (hrest : (st.map fun v => v.category).sum ≤ 8) (hb : mc' + rc' ≤ rc ∧ ms' + rs' ≤ rs)
    (kk : z_V M (d + 1) mc ms rc' rs' r X1 (pc + 3) lv (r'.toList ++ st) X2) : z_V M (d + 1) mc ms rc rs r X1 pc lv stk X := by
  subst hstk
  intro p l e s m args below meth c D dA A n0 h0 h H ls locs cells slots C hat hS hlv hst hc hs
  obtain ⟨hx', hb', hml, hret, hown, hts, hlk, hnm, hK, hA, hnw, hstt⟩ := id C
  have hso : z_sl X.1 (.ref o :: as) := fun v hv => hst v (by
    rcases List.mem_cons.mp hv with rfl | hv
    · exact List.mem_append_right _ List.mem_cons_self
    · exact List.mem_append_left _ (List.mem_reverse.mpr hv))
  have hst' : z_sl X.1 st := fun v hv => hst v (List.mem_append_right _ (List.mem_cons_of_mem _ hv))
  obtain ⟨y, cc, mL, rt⟩ := M'
  obtain ⟨hnl, hw, ⟨hpl, hmx⟩, hin, hrt⟩ := hl
  have hrt : rt = none := hrt
  subst hrt
  refine z_after (a := (as.map (z_v h)).toArray) (va_runIN (As := as.map (z_v h)) (rest := st.map (z_v h)) (b := h o) (n := na) (host := "TraceTier") (Pc := z_Pc dA D h H.size (.ref o :: as) X) (Qc := z_Qc r' X2 D dA (va_A (z_ws dA h X) H.size) X.1 h) ⟨hx', hb', hml, hown, hts⟩ (hsp l D dA h H.size) ⟨va_cnB na hts (z_good ?_) rfl rfl rfl (hnw.1 _ hnl) (hts _ (hw _ (by simp))) hpl ⟨?_, ?_⟩, hin, hts _ (hw _ (by simp))⟩ ⟨z_blind, z_pre C hat hS hso⟩ rfl (by rw [List.length_map]; exact hn) hlv.1 (by simp [z_v]) (lv_room (by rw [z_cats]; exact hrest)) hd ⟨?_, ?_⟩) C hat hS hlv hst' hc hs hb kk
  · intro w h2
    rcases List.mem_cons.mp h2 with rfl | h2
    · exact hw _ (by simp [z_cd])
    · exact h2
  · show d + 1 + 1 ≤ d + 1 + 1; omega
  · show 8 + (mL + 11) + (34 * d + 40) ≤ 34 * (d + 1) + 40
    have : mL ≤ 15 := hmx
    omega
  · show cells + mc' ≤ mc; omega
  · show slots + ms' ≤ ms; omega
end ZS
section ZT
variable {M : z_M} {d mc ms rc rs : Nat} {r : Option Value} {X1 : z_X} {n : Nat} {ρ : Nat → Nat → Option Nat} {σ : Nat → Nat → Int32} {τ : Nat → Nat → Int64} {pc : Nat} {lv : List (Option Value)} {st : List Value}
/-- getstatic of a table, a local, iaload: three instructions -/
theorem z_tab {idx j : Nat} {nm : String} {f : Nat → Int32} {k : Fin 4} {i : Nat} {x y : Int32} (hd : decode M.2.1 pc = .ok (.getstatic idx, 3)) (hd2 : decode M.2.1 (pc + 3) = .ok (.iload_n k, 1)) (hd3 : decode M.2.1 (pc + 4) = .ok (.iaload, 1)) (hm : (nm, f) ∈ z_sts) (hl : Cond.fieldLinkNest M.1.cls idx "TraceTier" nm "[I" "TraceTier" ∈ z_N) (hi : (k : Nat) = i) (hv : lv[i]? = some (some (.int x))) (hx : x = nI j) (hj : j < 16) (hy : f j = y) {X : z_X}
    (kk : z_V M d mc ms rc rs r X1 (pc + 5) lv (.int y :: st) X) : z_V M d mc ms rc rs r X1 pc lv st X := by
  intro p l e s m args below meth c D dA A n0 h0 h H ls locs cells slots C hat hS hlv hst hc hs
  obtain ⟨hx', hb', hml, hret, hown, hts, hlk, hnm, hK, hA, hnw, hstt⟩ := id C
  obtain ⟨t, hZ, hT⟩ := hstt _ hm
  refine va_getsN hx' hb' hZ hS hown (va_Nw.use rfl (hnw.1 _ hl)) (fun x h => h) hd ?_
  refine lv_iload_n hx' hb' hd2 hi (hlv.2.2 i _ hv).1 ?_
  subst hx
  obtain ⟨cell, g1, g2, g3, g4, g5, g6, g7⟩ := hT
  have g1' : H[t]? = some cell := by rw [hS.2.1 t (Array.getElem?_eq_some_iff.mp g1).1 g7]; exact g1
  have hcl : (nI j).toNatClampNeg = j := nI_clamp (by omega)
  refine W.iald hx' hb' g1' g2 g3 (fun q => ?_) (v := .int y) (by rw [hcl, g6 j hj, ← hy]) rfl rfl hd3 ?_
  · rcases q with q | q
    · exact nI_pos (by omega) q
    · rw [hcl] at q; omega
  · exact kk p l e s m args below meth c D dA A n0 h0 h H ls locs cells slots C hat hS hlv (hst.cons z_sv.int) hc hs
/-- System.arraycopy of ints -/
theorem z_copy {idx a b la lb sp dp k : Nat} {xs xd xn : Int32} (hd : decode M.2.1 pc = .ok (.invokestatic idx, 3)) (hl : ∀ w ∈ ([.methodLink M.1.cls idx arraycopyName, .native arraycopyName, .static arraycopyName, .initialized "java/lang/System"] : List Cond), w ∈ z_G) (hka : z_k a = (1, la)) (hkb : z_k b = (1, lb)) (hxs : xs = nI sp) (hxd : xd = nI dp) (hxn : xn = nI k) (hsa : sp + k ≤ la) (hdb : dp + k ≤ lb) (hst0 : st = [])
    (kk : z_V M d mc ms rc rs r X1 (pc + 3) lv st (n, ρ, z_row σ b (va_cpy (σ a) (σ b) sp dp k), τ)) : z_V M d mc ms rc rs r X1 pc lv (.int xn :: .int xd :: .ref b :: .int xs :: .ref a :: st) (n, ρ, σ, τ) := by
  intro p l e s m args below meth c D dA A n0 h0 h H ls locs cells slots C hat hS hlv hst hc hs
  obtain ⟨hx', hb', hml, hret, hown, hts, hlk, hnm, hK, hA, hnw, hstt⟩ := id C
  have hla := z_len hka
  have hlb := z_len hkb
  have c1 : (nI sp).toNatClampNeg = sp := nI_clamp (by omega)
  have c2 : (nI dp).toNatClampNeg = dp := nI_clamp (by omega)
  have c3 : (nI k).toNatClampNeg = k := nI_clamp (by omega)
  subst hxs; subst hxd; subst hxn; subst hst0
  have hea := z_cell (dA := dA) (h := h) (ρ := ρ) (σ := σ) (τ := τ) hst.tl.tl.tl.tl.hd.of hka
  have heb := z_cell (dA := dA) (h := h) (ρ := ρ) (σ := σ) (τ := τ) hst.tl.tl.hd.of hkb
  refine va_copyi (f := σ a) (g := σ b) (ty := .int) hx' hb' (hml.trans hlv.1.symm) hown (hts _ (hl _ (by simp))) (hts _ (hl _ (by simp))) (hts _ (hl _ (by simp))) (hts _ (hl _ (by simp))) hK hat.2.2.2.1 hat.2.2.2.2 hS a b 0 0 hea heb rfl rfl rfl (nI_pos (by omega)) (nI_pos (by omega)) (nI_pos (by omega)) (by rw [c1, c3]; exact hsa) (by rw [c2, c3]; exact hdb) (fun i hi => rfl) (by show 1 ≤ d + 1; omega) (by show _ + _ ≤ 34 * d + 40; simp [nativeFrameWords]) hd ?_
  intro H1 locs1 hP1 hD1 hS1
  rw [c1, c2, c3] at hP1 hD1
  have ew := z_wRow (dA := dA) (h := h) (n := n) (ρ := ρ) (σ := σ) (τ := τ) (f := va_cpy (σ a) (σ b) sp dp k) (E := z_ent dA h (1, lb) (ρ b) (va_cpy (σ a) (σ b) sp dp k) (τ b)) hkb rfl
  exact kk p l e s m args below meth c D dA A n0 h0 h H1 ls locs1 cells slots C ⟨hat.1, hat.2.1, hat.2.2.1, ew ▸ hP1, ew ▸ hD1⟩ hS1 hlv hst.tl.tl.tl.tl.tl hc hs
end ZT
