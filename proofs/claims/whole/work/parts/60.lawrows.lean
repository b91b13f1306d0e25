/-! PART 60: the rows of the law's walk -/
def z_Y (Cx : z_CT) (Qx : z_QT) (b : Nat) (M : z_M) (d mc ms rc rs : Nat) (pc : Nat) (lv : List (Option Value)) (st : List Value) (X : z_X) : Prop :=
  ∀ (p : Program) (l : Launch) (e : Env) (s : State) (m : MethodId) (args : Array Value) (below : List Frame) (meth : Method) (c : Code) (D : va_G) (dA : Nat → ClassId) (A : Nat → Prop) (n0 : Nat) (h0 h : Nat → Nat) (H : Heap) (ls : Array Slot) (locs : List Loc) (cells slots : Nat), Cx l s c A → ls[0]? = some (.val (.ref b)) →
    z_C M p s m args meth c D dA A → z_at D dA A n0 h0 h X H → va_S A s.heap H locs → z_lv M.2.2.1 h X.1 ls lv → z_sl X.1 st → cells + rc ≤ mc → slots + rs ≤ ms →
    W p l e (z_rm d mc ms) s m args below meth c H locs cells slots (Qx below args s D dA A n0 h0) (F0 m pc ls (st.map (z_v h)))
def z_lc (b L : Nat) (xs : Nat → Int32) : z_CT := fun l s c A => z_xs l s A s.heap ∧ va_X b L xs s s.heap ∧ b < s.heap.size ∧ ¬ A b
section Y0
variable {Cx : z_CT} {Qx : z_QT} {b0 : Nat}
variable {M : z_M} {d mc ms rc rs : Nat} {r : Option Value} {X1 X : z_X} {pc pc' : Nat} {lv : List (Option Value)} {st st' : List Value}
theorem zy_pure (hs : z_sl X.1 st → z_sl X.1 st')
    (hw : ∀ {p : Program} {l : Launch} {e : Env} {R : Room} {s : State} {m : MethodId} {args : Array Value} {below : List Frame} {meth : Method} {c : Code} {H : Heap} {locs : List Loc} {cells slots : Nat} {Q : State → Prop} {ls : Array Slot} (h : Nat → Nat), p.tables.exec = Jvm.exec → c.code = M.2.1 →
      W p l e R s m args below meth c H locs cells slots Q (F0 m pc' ls (st'.map (z_v h))) → W p l e R s m args below meth c H locs cells slots Q (F0 m pc ls (st.map (z_v h))))
    (k : z_Y Cx Qx b0 M d mc ms rc rs pc' lv st' X) : z_Y Cx Qx b0 M d mc ms rc rs pc lv st X := by
  intro p l e s m args below meth c D dA A n0 h0 h H ls locs cells slots CX hb0 C hat hS hl hst hc hs'
  exact hw h C.1 C.2.1 (k p l e s m args below meth c D dA A n0 h0 h H ls locs cells slots CX hb0 C hat hS hl (hs hst) hc hs')
end Y0
section Y1
variable {Cx : z_CT} {Qx : z_QT} {b0 : Nat}
variable {M : z_M} {d mc ms rc rs : Nat} {r : Option Value} {X1 X : z_X} {pc : Nat} {lv : List (Option Value)} {st : List Value}
theorem zy_if_eq {x : Int32} {off : Int} {tgt : Nat} (hd : decode M.2.1 pc = .ok (.ifCond .eq off, 3)) (ht : (pc : Int) + off = (tgt : Int)) (kt : x = 0 → z_Y Cx Qx b0 M d mc ms rc rs tgt lv st X) (kf : ¬ x = 0 → z_Y Cx Qx b0 M d mc ms rc rs (pc + 3) lv st X) : z_Y Cx Qx b0 M d mc ms rc rs pc lv (.int x :: st) X := by
  intro p l e s m args below meth c D dA A n0 h0 h H ls locs cells slots CX hb0 C hat hS hl hst hc hs
  exact lv_if_eq C.1 C.2.1 hd ht (fun q => kt q p l e s m args below meth c D dA A n0 h0 h H ls locs cells slots CX hb0 C hat hS hl (fun v hv => hst v (by simp [hv])) hc hs) (fun q => kf q p l e s m args below meth c D dA A n0 h0 h H ls locs cells slots CX hb0 C hat hS hl (fun v hv => hst v (by simp [hv])) hc hs)
end Y1
section Y2
variable {Cx : z_CT} {Qx : z_QT} {b0 : Nat}
variable {M : z_M} {d mc ms rc rs : Nat} {r : Option Value} {X1 X : z_X} {pc : Nat} {lv : List (Option Value)} {st : List Value}
theorem zy_if_ne {x : Int32} {off : Int} {tgt : Nat} (hd : decode M.2.1 pc = .ok (.ifCond .ne off, 3)) (ht : (pc : Int) + off = (tgt : Int)) (kt : ¬ x = 0 → z_Y Cx Qx b0 M d mc ms rc rs tgt lv st X) (kf : x = 0 → z_Y Cx Qx b0 M d mc ms rc rs (pc + 3) lv st X) : z_Y Cx Qx b0 M d mc ms rc rs pc lv (.int x :: st) X := by
  intro p l e s m args below meth c D dA A n0 h0 h H ls locs cells slots CX hb0 C hat hS hl hst hc hs
  exact lv_if_ne C.1 C.2.1 hd ht (fun q => kt q p l e s m args below meth c D dA A n0 h0 h H ls locs cells slots CX hb0 C hat hS hl (fun v hv => hst v (by simp [hv])) hc hs) (fun q => kf q p l e s m args below meth c D dA A n0 h0 h H ls locs cells slots CX hb0 C hat hS hl (fun v hv => hst v (by simp [hv])) hc hs)
end Y2
section Y3
variable {Cx : z_CT} {Qx : z_QT} {b0 : Nat}
variable {M : z_M} {d mc ms rc rs : Nat} {r : Option Value} {X1 X : z_X} {pc : Nat} {lv : List (Option Value)} {st : List Value}
theorem zy_icmp_eq {x y : Int32} {off : Int} {tgt : Nat} (hd : decode M.2.1 pc = .ok (.if_icmp .eq off, 3)) (ht : (pc : Int) + off = (tgt : Int)) (kt : x = y → z_Y Cx Qx b0 M d mc ms rc rs tgt lv st X) (kf : ¬ x = y → z_Y Cx Qx b0 M d mc ms rc rs (pc + 3) lv st X) : z_Y Cx Qx b0 M d mc ms rc rs pc lv (.int y :: .int x :: st) X := by
  intro p l e s m args below meth c D dA A n0 h0 h H ls locs cells slots CX hb0 C hat hS hl hst hc hs
  exact lv_icmp_eq C.1 C.2.1 hd ht (fun q => kt q p l e s m args below meth c D dA A n0 h0 h H ls locs cells slots CX hb0 C hat hS hl (fun v hv => hst v (by simp [hv])) hc hs) (fun q => kf q p l e s m args below meth c D dA A n0 h0 h H ls locs cells slots CX hb0 C hat hS hl (fun v hv => hst v (by simp [hv])) hc hs)
end Y3
section Y4
variable {Cx : z_CT} {Qx : z_QT} {b0 : Nat}
variable {M : z_M} {d mc ms rc rs : Nat} {r : Option Value} {X1 X : z_X} {pc : Nat} {lv : List (Option Value)} {st : List Value}
theorem zy_icmp_gt {x y : Int32} {off : Int} {tgt : Nat} (hd : decode M.2.1 pc = .ok (.if_icmp .gt off, 3)) (ht : (pc : Int) + off = (tgt : Int)) (kt : y < x → z_Y Cx Qx b0 M d mc ms rc rs tgt lv st X) (kf : ¬ y < x → z_Y Cx Qx b0 M d mc ms rc rs (pc + 3) lv st X) : z_Y Cx Qx b0 M d mc ms rc rs pc lv (.int y :: .int x :: st) X := by
  intro p l e s m args below meth c D dA A n0 h0 h H ls locs cells slots CX hb0 C hat hS hl hst hc hs
  exact lv_icmp_gt C.1 C.2.1 hd ht (fun q => kt q p l e s m args below meth c D dA A n0 h0 h H ls locs cells slots CX hb0 C hat hS hl (fun v hv => hst v (by simp [hv])) hc hs) (fun q => kf q p l e s m args below meth c D dA A n0 h0 h H ls locs cells slots CX hb0 C hat hS hl (fun v hv => hst v (by simp [hv])) hc hs)
end Y4
section Y5
variable {Cx : z_CT} {Qx : z_QT} {b0 : Nat}
variable {M : z_M} {d mc ms rc rs : Nat} {r : Option Value} {X1 X : z_X} {pc : Nat} {lv : List (Option Value)} {st : List Value}
theorem zy_iconst {n : Int} {v : Int32} (hd : decode M.2.1 pc = .ok (.iconst n, 1)) (hv : Int32.ofInt n = v) (k : z_Y Cx Qx b0 M d mc ms rc rs (pc + 1) lv (.int v :: st) X) : z_Y Cx Qx b0 M d mc ms rc rs pc lv st X := by
  refine zy_pure (fun hst v hv => ?_) (fun h hx hb kk => lv_iconst hx hb hd hv kk) k
  rcases List.mem_cons.mp hv with rfl | hv
  · exact z_sv.int
  · exact hst v hv
end Y5
section Y6
variable {Cx : z_CT} {Qx : z_QT} {b0 : Nat}
variable {M : z_M} {d mc ms rc rs : Nat} {r : Option Value} {X1 X : z_X} {pc : Nat} {lv : List (Option Value)} {st : List Value}
theorem zy_bipush {n : Int} {v : Int32} (hd : decode M.2.1 pc = .ok (.bipush n, 2)) (hv : (Int8.ofInt n).toInt32 = v) (k : z_Y Cx Qx b0 M d mc ms rc rs (pc + 2) lv (.int v :: st) X) : z_Y Cx Qx b0 M d mc ms rc rs pc lv st X := by
  refine zy_pure (fun hst v hv => ?_) (fun h hx hb kk => lv_bipush hx hb hd hv kk) k
  rcases List.mem_cons.mp hv with rfl | hv
  · exact z_sv.int
  · exact hst v hv
end Y6
section Y7
variable {Cx : z_CT} {Qx : z_QT} {b0 : Nat}
variable {M : z_M} {d mc ms rc rs : Nat} {r : Option Value} {X1 X : z_X} {pc : Nat} {lv : List (Option Value)} {st : List Value}
theorem zy_iload {i : Nat} {x : Int32} (hd : decode M.2.1 pc = .ok (.iload i, 2)) (hv : lv[i]? = some (some (.int x))) (kk : z_Y Cx Qx b0 M d mc ms rc rs (pc + 2) lv (.int x :: st) X) : z_Y Cx Qx b0 M d mc ms rc rs pc lv st X := by
  intro p l e s m args below meth c D dA A n0 h0 h H ls locs cells slots CX hb0 C hat hS hl hst hc hs
  exact lv_iload C.1 C.2.1 hd (hl.2.2 i _ hv).1 (kk p l e s m args below meth c D dA A n0 h0 h H ls locs cells slots CX hb0 C hat hS hl (fun v hv => (List.mem_cons.mp hv).elim (fun q => q ▸ z_sv.int) (hst v)) hc hs)
end Y7
section Y8
variable {Cx : z_CT} {Qx : z_QT} {b0 : Nat}
variable {M : z_M} {d mc ms rc rs : Nat} {r : Option Value} {X1 X : z_X} {pc : Nat} {lv : List (Option Value)} {st : List Value}
theorem zy_aload_n {k : Fin 4} {i : Nat} {x : Nat} (hd : decode M.2.1 pc = .ok (.aload_n k, 1)) (hi : (k : Nat) = i) (hv : lv[i]? = some (some (.ref x))) (kk : z_Y Cx Qx b0 M d mc ms rc rs (pc + 1) lv (.ref x :: st) X) : z_Y Cx Qx b0 M d mc ms rc rs pc lv st X := by
  intro p l e s m args below meth c D dA A n0 h0 h H ls locs cells slots CX hb0 C hat hS hl hst hc hs
  exact lv_aload_n C.1 C.2.1 hd hi (hl.2.2 i _ hv).1 (kk p l e s m args below meth c D dA A n0 h0 h H ls locs cells slots CX hb0 C hat hS hl (fun v hv' => (List.mem_cons.mp hv').elim (fun q => q ▸ (hl.2.2 i _ hv).2.1) (hst v)) hc hs)
end Y8
section Y9
variable {Cx : z_CT} {Qx : z_QT} {b0 : Nat}
variable {M : z_M} {d mc ms rc rs : Nat} {r : Option Value} {X1 X : z_X} {pc : Nat} {lv : List (Option Value)} {st : List Value}
theorem zy_tableOut {dflt lo hi : Int} {offs : Array Int} {len : Nat} {x : Int32} {tgt : Nat} (hd : decode M.2.1 pc = .ok (.tableswitch dflt lo hi offs, len)) (h : x.toInt < lo ∨ hi < x.toInt) (ht : (pc : Int) + dflt = (tgt : Int)) (kk : z_Y Cx Qx b0 M d mc ms rc rs tgt lv st X) : z_Y Cx Qx b0 M d mc ms rc rs pc lv (.int x :: st) X :=
  zy_pure (fun hst w hw => hst w (List.mem_cons_of_mem _ hw)) (fun _ hx hb kk => lv_tableOut hx hb hd h ht kk) kk
end Y9
section Y10
variable {Cx : z_CT} {Qx : z_QT} {b0 : Nat}
variable {M : z_M} {d mc ms rc rs : Nat} {r : Option Value} {X1 X : z_X} {pc : Nat} {lv : List (Option Value)} {st : List Value}
theorem zy_tableIn {dflt lo hi : Int} {offs : Array Int} {len : Nat} {x : Int32} {off : Int} {tgt : Nat} (hd : decode M.2.1 pc = .ok (.tableswitch dflt lo hi offs, len)) (h1 : ¬ x.toInt < lo) (h2 : ¬ hi < x.toInt) (ho : offs[(x.toInt - lo).toNat]? = some off) (ht : (pc : Int) + off = (tgt : Int)) (kk : z_Y Cx Qx b0 M d mc ms rc rs tgt lv st X) : z_Y Cx Qx b0 M d mc ms rc rs pc lv (.int x :: st) X :=
  zy_pure (fun hst w hw => hst w (List.mem_cons_of_mem _ hw)) (fun _ hx hb kk => lv_tableIn hx hb hd h1 h2 ho ht kk) kk
end Y10
section Y11
variable {Cx : z_CT} {Qx : z_QT} {b0 : Nat}
variable {M : z_M} {d mc ms rc rs : Nat} {r : Option Value} {X1 X : z_X} {pc : Nat} {lv : List (Option Value)} {st : List Value}
theorem zy_iand {x y z : Int32} (hd : decode M.2.1 pc = .ok (.iand, 1)) (hz : x &&& y = z) (k : z_Y Cx Qx b0 M d mc ms rc rs (pc + 1) lv (.int z :: st) X) : z_Y Cx Qx b0 M d mc ms rc rs pc lv (.int y :: .int x :: st) X := by
  subst hz
  refine zy_pure (fun hst v hv => ?_) (fun h hx hb kk => lv_iand hx hb hd kk) k
  rcases List.mem_cons.mp hv with rfl | hv
  · exact z_sv.int
  · exact hst v (by simp [hv])
end Y11
section Y12
variable {Cx : z_CT} {Qx : z_QT} {b0 : Nat}
variable {M : z_M} {d mc ms rc rs : Nat} {r : Option Value} {X1 X : z_X} {pc : Nat} {lv : List (Option Value)} {st : List Value}
theorem zy_goto {off : Int} {tgt : Nat} (hd : decode M.2.1 pc = .ok (.goto off, 3)) (ht : (pc : Int) + off = (tgt : Int)) (kk : z_Y Cx Qx b0 M d mc ms rc rs tgt lv st X) : z_Y Cx Qx b0 M d mc ms rc rs pc lv st X :=
  zy_pure (fun hst => hst) (fun h hx hb kk => lv_goto hx hb hd ht kk) kk
end Y12
section Y13
variable {Cx : z_CT} {Qx : z_QT} {b0 : Nat}
variable {M : z_M} {d mc ms rc rs : Nat} {r : Option Value} {X1 X : z_X} {pc : Nat} {lv : List (Option Value)} {st : List Value}
theorem zy_dup {v : Value} (hd : decode M.2.1 pc = .ok (.dup, 1)) (hc : v.category = 1) (kk : z_Y Cx Qx b0 M d mc ms rc rs (pc + 1) lv (v :: v :: st) X) : z_Y Cx Qx b0 M d mc ms rc rs pc lv (v :: st) X := by
  refine zy_pure (fun hst w hw => ?_) (fun h hx hb kk => lv_dup hx hb hd ((z_v_cat h v).trans hc) kk) kk
  rcases List.mem_cons.mp hw with rfl | hw
  · exact hst _ List.mem_cons_self
  · exact hst w hw
end Y13
section Y14
variable {Cx : z_CT} {Qx : z_QT} {b0 : Nat}
variable {M : z_M} {d mc ms rc rs : Nat} {r : Option Value} {X1 : z_X} {n : Nat} {ρ : Nat → Nat → Option Nat} {σ : Nat → Nat → Int32} {τ : Nat → Nat → Int64} {pc : Nat} {lv : List (Option Value)} {st : List Value}
theorem zy_i2l {x : Int32} {y : Int64} (hd : decode M.2.1 pc = .ok (.i2l, 1)) (hy : x.toInt64 = y) {X : z_X} (kk : z_Y Cx Qx b0 M d mc ms rc rs (pc + 1) lv (.long y :: st) X) : z_Y Cx Qx b0 M d mc ms rc rs pc lv (.int x :: st) X := by
  refine zy_pure (fun hst => hst.tl.cons z_sv.long) (fun h hx hb kk => lv_i2l hx hb hd hy kk) kk
end Y14
section Y15
variable {Cx : z_CT} {Qx : z_QT} {b0 : Nat}
theorem zy_lconst {M : z_M} {d mc ms rc rs : Nat} {X : z_X} {pc : Nat} {lv : List (Option Value)} {st : List Value} {n : Fin 2} {v : Int64} (hd : decode M.2.1 pc = .ok (.lconst n, 1)) (hv : Int64.ofNat (n : Nat) = v) (k : z_Y Cx Qx b0 M d mc ms rc rs (pc + 1) lv (.long v :: st) X) : z_Y Cx Qx b0 M d mc ms rc rs pc lv st X :=
  zy_pure (fun hst => hst.cons z_sv.long) (fun h hx hb kk => lv_lconst hx hb hd hv kk) k
end Y15
section Y16
variable {Cx : z_CT} {Qx : z_QT} {b0 : Nat}
variable {M : z_M} {d mc ms rc rs : Nat} {r : Option Value} {X1 : z_X} {n : Nat} {ρ : Nat → Nat → Option Nat} {σ : Nat → Nat → Int32} {τ : Nat → Nat → Int64} {pc : Nat} {lv : List (Option Value)} {st : List Value}
theorem zy_lald {i len j : Nat} {x : Int32} {y : Int64} (hd : decode M.2.1 pc = .ok (.laload, 1)) (hk : z_k i = (3, len)) (hx : x = nI j) (hj : j < len) (hy : τ i j = y) (kk : z_Y Cx Qx b0 M d mc ms rc rs (pc + 1) lv (.long y :: st) (n, ρ, σ, τ)) : z_Y Cx Qx b0 M d mc ms rc rs pc lv (.int x :: .ref i :: st) (n, ρ, σ, τ) := by
  intro p l e s m args below meth c D dA A n0 h0 h H ls locs cells slots CX hb0 C hat hS hlv hst hc hs
  have he := z_cell (dA := dA) (h := h) (ρ := ρ) (σ := σ) (τ := τ) hst.tl.hd.of hk
  obtain ⟨hx', hb, hml, hret, hown, hts, hlk, hnm, hK, hA, hnw, hstt⟩ := id C
  obtain ⟨hin, hcl⟩ := z_in hk hx hj
  refine va_lald hx' hb hK hat.2.2.2.1 i 2 (f := τ i) he rfl hin hd ?_
  rw [hcl, hy]
  exact kk p l e s m args below meth c D dA A n0 h0 h H ls locs cells slots CX hb0 C hat hS hlv (hst.tl.tl.cons z_sv.long) hc hs
end Y16
section Y17
variable {Cx : z_CT} {Qx : z_QT} {b0 : Nat}
theorem zy_after {M : z_M} {d mc ms rc rs rc' rs' mc' ms' : Nat} {r' : Option Value} {X X2 : z_X} {pc : Nat} {lv : List (Option Value)} {st st0 : List Value} {p : Program} {l : Launch} {e : Env} {s : State} {m : MethodId} {args a : Array Value} {below : List Frame} {meth : Method} {c : Code} {D : va_G} {dA : Nat → ClassId} {A : Nat → Prop} {n0 : Nat} {h0 h : Nat → Nat} {H : Heap} {ls : Array Slot} {locs : List Loc} {cells slots : Nat}
    (hr : va_Run p l e (z_rm d mc ms) s m args below meth c H locs cells slots mc' ms' (F0 m pc ls st0) (st.map (z_v h)) (z_Qc r' X2 D dA (va_A (z_ws dA h X) H.size) X.1 h a) (va_A (z_ws dA h X) H.size))
    (CX : Cx l s c A) (hb0 : ls[0]? = some (.val (.ref b0))) (C : z_C M p s m args meth c D dA A) (hat : z_at D dA A n0 h0 h X H) (hS : va_S A s.heap H locs) (hlv : z_lv M.2.2.1 h X.1 ls lv) (hst : z_sl X.1 st) (hc : cells + rc ≤ mc) (hs : slots + rs ≤ ms) (hb : mc' + rc' ≤ rc ∧ ms' + rs' ≤ rs)
    (kk : z_Y Cx Qx b0 M d mc ms rc' rs' (pc + 3) lv (r'.toList ++ st) X2) : W p l e (z_rm d mc ms) s m args below meth c H locs cells slots (Qx below args s D dA A n0 h0) (F0 m pc ls st0) := by
  intro T hT Xs
  obtain ⟨v, st₀, t, T', L, e0, X', hL, e1, e2, hq, stp⟩ := hr T hT Xs
  obtain ⟨⟨h1, hv, hat1, hrs⟩, hz, hk⟩ := hq
  cases hv
  rw [e0] at hz hk
  have hsub := z_sub C hat hS
  have hS1 : va_S A s.heap T'.heap (locs ++ L) := ⟨Nat.le_trans hS.1 (by rw [e1]; exact hz), fun q g1 g2 => by
      rw [e1, hk q (Nat.lt_of_lt_of_le g1 hS.1) (fun z => g2 (hsub q z))]
      exact hS.2.1 q g1 g2, fun q hq => by
      rcases List.mem_append.mp hq with g | g
      · exact hS.2.2 q g
      · exact hsub _ (hL q g)⟩
  have hat2 : z_at D dA A n0 h0 h1 X2 T'.heap := ⟨Nat.le_trans hat.1 hat1.1, fun i hi => (hat1.2.1 i (Nat.lt_of_lt_of_le hi hat.1)).trans (hat.2.1 i hi), hat1.2.2.1, by rw [e1]; exact hat1.2.2.2.1, hat1.2.2.2.2.weaken (fun k q _ g => hsub q.1 g)⟩
  have k2 := kk p l e s m args below meth c D dA A n0 h0 h1 T'.heap ls (locs ++ L) (cells + mc') (slots + ms') CX hb0 C hat2 hS1 (hlv.mv hat1.2.1 hat1.1) (fun v hv => by
      rcases List.mem_append.mp hv with g | g
      · exact hrs v (by simpa using g)
      · exact (hst v g).up hat1.1) (by omega) (by omega)
  obtain ⟨t2, a1, b1⟩ := k2 T' rfl X'
  refine ⟨t2, stp t2 ?_, b1⟩
  have e3 : (r'.toList ++ st).map (z_v h1) = (r'.map (z_v h1)).toList ++ st.map (z_v h) := by
    rw [List.map_append, z_vs_eq hat1.2.1 hst]
    cases r' <;> rfl
  rw [e3] at a1
  exact a1
end Y17
section Y18
variable {Cx : z_CT} {Qx : z_QT} {b0 : Nat}
variable {M M' : z_M} {d mc ms rc rs rc' rs' mc' ms' : Nat} {r r' : Option Value} {X X1 X2 : z_X} {pc : Nat} {lv : List (Option Value)} {st stk : List Value} {idx na : Nat} {as : List Value} {o ci : Nat}
theorem zy_callV (hd : decode M.2.1 pc = .ok (.invokevirtual idx, 3)) (hl : z_lV M.1.cls idx M' na) (hsp : z_MV M' d mc' ms' (.ref o :: as) X r' X2) (hk : z_k o = (0, ci)) (hci : ci < 12 ∧ z_R ci = M'.1.cls) (hstk : as.reverse ++ .ref o :: st = stk) (hn : as.length = na) (hrest : (st.map fun v => v.category).sum ≤ 8) (hb : mc' + rc' ≤ rc ∧ ms' + rs' ≤ rs)
    (kk : z_Y Cx Qx b0 M (d + 1) mc ms rc' rs' (pc + 3) lv (r'.toList ++ st) X2) : z_Y Cx Qx b0 M (d + 1) mc ms rc rs pc lv stk X := by
  subst hstk
  intro p l e s m args below meth c D dA A n0 h0 h H ls locs cells slots CX hb0 C hat hS hlv hst hc hs
  obtain ⟨hx', hb', hml, hret, hown, hts, hlk, hnm, hK, hA, hnw, hstt⟩ := id C
  have hso : z_sl X.1 (.ref o :: as) := fun v hv => hst v (by
    rcases List.mem_cons.mp hv with rfl | hv
    · exact List.mem_append_right _ List.mem_cons_self
    · exact List.mem_append_left _ (List.mem_reverse.mpr hv))
  have hst' : z_sl X.1 st := fun v hv => hst v (List.mem_append_right _ (List.mem_cons_of_mem _ hv))
  obtain ⟨n, ρ, σ, τ⟩ := X
  have he := z_cell (dA := dA) (h := h) (ρ := ρ) (σ := σ) (τ := τ) hso.hd.of hk
  have hw := hl.1
  refine zy_after (a := (as.map (z_v h)).toArray) (va_runV (As := as.map (z_v h)) (rest := st.map (z_v h)) (b := h o) (C := M'.1.cls) (n := na) (Pc := z_Pc dA D h H.size (.ref o :: as) (n, ρ, σ, τ)) (Qc := z_Qc r' X2 D dA (va_A (z_ws dA h (n, ρ, σ, τ)) H.size) n h) ⟨hx', hb', hml, hown, hts⟩ (hsp l D dA h H.size) (cwV na hts (z_good ?_) rfl rfl rfl ⟨rfl, hl.2.1⟩ ⟨?_, ?_⟩) ⟨z_blind, ?_, z_pre C hat hS hso⟩ rfl (by rw [List.length_map]; exact hn) hlv.1 (by simp [z_v]) (lv_room (by rw [z_cats]; exact hrest)) hd ⟨?_, ?_⟩) CX hb0 C hat hS hlv hst' hc hs hb kk
  · intro w h2
    rcases List.mem_append.mp h2 with h2 | h2
    · exact hw w (by simp at h2 ⊢; rcases h2 with h2 | h2 | h2 | h2 <;> simp [h2])
    · rcases List.mem_cons.mp h2 with rfl | h2
      · exact hw _ (by simp [z_cd])
      · exact h2
  · show d + 1 + 1 ≤ d + 1 + 1; omega
  · show 8 + (M'.2.2.1 + 11) + (34 * d + 40) ≤ 34 * (d + 1) + 40
    have := hl.2.2
    omega
  · have := va_recv hK hat.2.2.2.1 (z_cl ci hci.1) he
    rwa [hci.2] at this
  · show cells + mc' ≤ mc; omega
  · show slots + ms' ≤ ms; omega
end Y18
section Y19
variable {Cx : z_CT} {Qx : z_QT} {b0 : Nat}
variable {M M' : z_M} {d mc ms rc rs rc' rs' mc' ms' : Nat} {r r' : Option Value} {X X1 X2 : z_X} {pc : Nat} {lv : List (Option Value)} {st stk : List Value} {idx na : Nat} {as : List Value} {o ci : Nat}
theorem zy_callI (hd : decode M.2.1 pc = .ok (.invokespecial idx, 3)) (hl : z_lI M.1.cls idx M' na) (hsp : z_MV M' d mc' ms' (.ref o :: as) X r' X2) (hstk : as.reverse ++ .ref o :: st = stk) (hn : as.length = na) (hrest : (st.map fun v => v.category).sum ≤ 8) (hb : mc' + rc' ≤ rc ∧ ms' + rs' ≤ rs)
    (kk : z_Y Cx Qx b0 M (d + 1) mc ms rc' rs' (pc + 3) lv (r'.toList ++ st) X2) : z_Y Cx Qx b0 M (d + 1) mc ms rc rs pc lv stk X := by
  subst hstk
  intro p l e s m args below meth c D dA A n0 h0 h H ls locs cells slots CX hb0 C hat hS hlv hst hc hs
  obtain ⟨hx', hb', hml, hret, hown, hts, hlk, hnm, hK, hA, hnw, hstt⟩ := id C
  have hso : z_sl X.1 (.ref o :: as) := fun v hv => hst v (by
    rcases List.mem_cons.mp hv with rfl | hv
    · exact List.mem_append_right _ List.mem_cons_self
    · exact List.mem_append_left _ (List.mem_reverse.mpr hv))
  have hst' : z_sl X.1 st := fun v hv => hst v (List.mem_append_right _ (List.mem_cons_of_mem _ hv))
  obtain ⟨y, cc, mL, rt⟩ := M'
  obtain ⟨hw, ⟨hpl, hmx⟩, hin, hrt⟩ := hl
  have hrt : rt = none := hrt
  subst hrt
  refine zy_after (a := (as.map (z_v h)).toArray) (va_runI (As := as.map (z_v h)) (rest := st.map (z_v h)) (b := h o) (n := na) (Pc := z_Pc dA D h H.size (.ref o :: as) X) (Qc := z_Qc r' X2 D dA (va_A (z_ws dA h X) H.size) X.1 h) ⟨hx', hb', hml, hown, hts⟩ (hsp l D dA h H.size) ⟨callB_of na hts (z_good ?_) rfl rfl rfl (hts _ (hw _ (by simp))) (hts _ (hw _ (by simp))) hpl ⟨?_, ?_⟩, hin, hts _ (hw _ (by simp))⟩ ⟨z_blind, z_pre C hat hS hso⟩ rfl (by rw [List.length_map]; exact hn) hlv.1 (by simp [z_v]) (lv_room (by rw [z_cats]; exact hrest)) hd ⟨?_, ?_⟩) CX hb0 C hat hS hlv hst' hc hs hb kk
  · intro w h2
    rcases List.mem_cons.mp h2 with rfl | h2
    · exact hw _ (by simp [z_cd])
    · exact h2
  · show d + 1 + 1 ≤ d + 1 + 1; omega
  · show 8 + (mL + 11) + (34 * d + 40) ≤ 34 * (d + 1) + 40
    have : mL ≤ 15 := hmx
    omega
  · show cells + mc' ≤ mc; omega
  · show slots + ms' ≤ ms; omega
end Y19
section Y20
variable {Cx : z_CT} {Qx : z_QT} {b0 : Nat}
variable {M M' : z_M} {d mc ms rc rs rc' rs' mc' ms' : Nat} {r : Option Value} {v : Value} {X X1 X2 : z_X} {pc : Nat} {lv : List (Option Value)} {st stk : List Value} {idx na : Nat} {as : List Value} {o ci : Nat}
theorem zy_cV1 (hd : decode M.2.1 pc = .ok (.invokevirtual idx, 3)) (hl : z_lV M.1.cls idx M' na) (hsp : z_MV M' d 0 0 (.ref o :: as) X (some v) X2) (hk : z_k o = (0, ci)) (hci : ci < 12 ∧ z_R ci = M'.1.cls) (hstk : as.reverse ++ .ref o :: st = stk) (hn : as.length = na) (hrest : (st.map fun v => v.category).sum ≤ 8)
    (kk : z_Y Cx Qx b0 M (d + 1) mc ms rc rs (pc + 3) lv (v :: st) X2) : z_Y Cx Qx b0 M (d + 1) mc ms rc rs pc lv stk X := zy_callV hd hl hsp hk hci hstk hn hrest ⟨by omega, by omega⟩ kk
end Y20
section Y21
variable {Cx : z_CT} {Qx : z_QT} {b0 : Nat}
variable {M : z_M} {d mc ms rc rs rc' rs' : Nat} {r : Option Value} {X1 : z_X} {n : Nat} {ρ : Nat → Nat → Option Nat} {σ : Nat → Nat → Int32} {τ : Nat → Nat → Int64} {pc : Nat} {lv : List (Option Value)} {st : List Value}
theorem zy_new {idx ci : Nat} (hd : decode M.2.1 pc = .ok (.new idx, 3)) (hci : ci < 12) (hl : ∀ w ∈ ([.classLink M.1.cls idx (z_R ci), .instantiable (z_R ci) (z_nf ci), .initialized (z_R ci)] : List Cond), w ∈ z_G) (hk : z_k n = (0, ci)) (hρ : ρ n = fun _ => none) (hσ : σ n = fun _ => 0) (hb : 1 + rc' ≤ rc ∧ z_nf ci + rs' ≤ rs)
    (kk : z_Y Cx Qx b0 M d mc ms rc' rs' (pc + 3) lv (.ref n :: st) (n + 1, ρ, σ, τ)) : z_Y Cx Qx b0 M d mc ms rc rs pc lv st (n, ρ, σ, τ) := by
  intro p l e s m args below meth c D dA A n0 h0 h H ls locs cells slots CX hb0 C hat hS hlv hst hc hs
  obtain ⟨hx', hb', hml, hret, hown, hts, hlk, hnm, hK, hA, hnw, hstt⟩ := id C
  refine va_new (ci := ci) (fs := z_fs h ci (fun _ => none) (fun _ => 0)) hx' hb' hts (z_uw ci hci) (z_ty ci) (z_tyok ci hci) hown (hts _ (hl _ (by simp))) (hts _ (hl _ (by simp))) (hts _ (hl _ (by simp))) hK hat.2.2.2.1 hat.2.2.2.2 hS hA (z_cl ci hci) ?_ (by show cells + 1 ≤ mc; omega) (by show slots + z_nf ci ≤ ms; omega) hd ?_
  · intro j hj
    rw [z_def ci hci j hj, vp_V, List.getD_eq_getElem?_getD]
    unfold z_fs
    rw [z_rget _ hj]
    rfl
  · intro q H1 hP1 hD1 hS1
    have ew := z_ws_push (dA := dA) (h := h) (q := q) (E := .inr (ci, z_fs h ci (fun _ => none) (fun _ => 0))) hat.2.2.1 hρ (by rw [hk, hσ]; rfl)
    have kq := kk p l e s m args below meth c D dA A n0 h0 (va_up h n q) H1 ls locs (cells + 1) (slots + z_nf ci) CX hb0 C ⟨Nat.le_succ_of_le hat.1, fun i hi => (z_up_h i (Nat.lt_of_lt_of_le hi hat.1)).trans (hat.2.1 i hi), z_sc_up hat.2.2.1 hρ, ew ▸ hP1, ew ▸ hD1⟩ hS1 (hlv.mv z_up_h (Nat.le_succ n)) (fun v hv => (List.mem_cons.mp hv).elim (fun q => q ▸ z_sv.mk (Nat.lt_succ_self n)) (fun q => (hst v q).up (Nat.le_succ n))) (by omega) (by omega)
    have e3 : (Value.ref n :: st).map (z_v (va_up h n q)) = Value.ref q :: st.map (z_v h) := by
      rw [List.map_cons, z_vs_eq z_up_h hst]
      simp [z_v, va_up]
    rw [e3] at kq
    exact kq
end Y21
section Y22
variable {Cx : z_CT} {Qx : z_QT} {b0 : Nat}
variable {M : z_M} {d mc ms rc rs rc' rs' : Nat} {r : Option Value} {X1 : z_X} {n : Nat} {ρ : Nat → Nat → Option Nat} {σ : Nat → Nat → Int32} {τ : Nat → Nat → Int64} {pc : Nat} {lv : List (Option Value)} {st : List Value}
theorem zy_newL {N : Nat} {x : Int32} (hd : decode M.2.1 pc = .ok (.newarray .long, 2)) (hl : Cond.arrayClass .long ∈ z_G) (hx : x = nI N) (hk : z_k n = (3, N)) (hρ : ρ n = fun _ => none) (hτ : τ n = fun _ => 0) (hb : 1 + rc' ≤ rc ∧ N + rs' ≤ rs)
    (kk : z_Y Cx Qx b0 M d mc ms rc' rs' (pc + 2) lv (.ref n :: st) (n + 1, ρ, σ, τ)) : z_Y Cx Qx b0 M d mc ms rc rs pc lv (.int x :: st) (n, ρ, σ, τ) := by
  intro p l e s m args below meth c D dA A n0 h0 h H ls locs cells slots CX hb0 C hat hS hlv hst hc hs
  obtain ⟨hx', hb', hml, hret, hown, hts, hlk, hnm, hK, hA, hnw, hstt⟩ := id C
  have hN := z_klen n
  rw [hk] at hN
  have hN : N < 1000 := hN
  subst hx
  refine va_newa (atype := .long) (ty := .long) (a0 := (N, .inr (.inl (fun _ => 0)))) hx' hb' (hts _ hl) rfl hK hat.2.2.2.1 hat.2.2.2.2 hS hA (fun cA => rfl) (nI_pos (by omega)) (nI_clamp (by omega)) (by show N * 8 ≤ _; omega) (by show cells + 1 ≤ mc; omega) (by show slots + N ≤ ms; omega) hd ?_
  intro q cA H1 hK1 hP1 hD1 hS1
  have hcA : cA = dA 2 := z_arrc hK1 2 rfl (Or.inr (Or.inr rfl))
  subst hcA
  have ew := z_ws_push (dA := dA) (h := h) (q := q) (E := .inl (dA 2, N, .inr (.inl (fun _ => 0)))) hat.2.2.1 hρ (by rw [hk, hτ]; rfl)
  have kq := kk p l e s m args below meth c D dA A n0 h0 (va_up h n q) H1 ls locs (cells + 1) (slots + N) CX hb0 C ⟨Nat.le_succ_of_le hat.1, fun i hi => (z_up_h i (Nat.lt_of_lt_of_le hi hat.1)).trans (hat.2.1 i hi), z_sc_up hat.2.2.1 hρ, ew ▸ hP1, ew ▸ hD1⟩ hS1 (hlv.mv z_up_h (Nat.le_succ n)) (fun v hv => (List.mem_cons.mp hv).elim (fun q => q ▸ z_sv.mk (Nat.lt_succ_self n)) (fun q => (hst.tl v q).up (Nat.le_succ n))) (by omega) (by omega)
  have e3 : (Value.ref n :: st).map (z_v (va_up h n q)) = Value.ref q :: st.map (z_v h) := by
    rw [List.map_cons, z_vs_eq z_up_h hst.tl]
    simp [z_v, va_up]
  rw [e3] at kq
  exact kq
end Y22
section Y23
variable {Cx : z_CT} {Qx : z_QT} {b0 : Nat}
theorem zy_Vx {M : z_M} {d mc ms rc rs : Nat} {n : Nat} {ρ : Nat → Nat → Option Nat} {σ σ' : Nat → Nat → Int32} {τ : Nat → Nat → Int64} {pc : Nat} {lv : List (Option Value)} {st : List Value} (h : σ' = σ) (k : z_Y Cx Qx b0 M d mc ms rc rs pc lv st (n, ρ, σ', τ)) : z_Y Cx Qx b0 M d mc ms rc rs pc lv st (n, ρ, σ, τ) := h ▸ k
end Y23
theorem z_lv.has0 {nL n b : Nat} {h : Nat → Nat} {ls : Array Slot} {lv : List (Option Value)} (H : z_lv nL h n ls lv) (hb : ls[0]? = some (.val (.ref b))) : lv_has ls nL ((0, .ref b) :: z_L h lv) := by
  have h1 := H.has
  refine ⟨h1.1, h1.2.1, fun q hq => ?_⟩
  rcases List.mem_cons.mp hq with rfl | hq
  · exact hb
  · exact h1.2.2 q hq
theorem z_keep0 {nL i b : Nat} {ls' : Array Slot} {L : List (Nat × Value)} {w : Value} (hi : i ≠ 0) (h' : lv_has ls' nL ((i, w) :: ((0, Value.ref b) :: L).filter (fun q => !(q.1 == i) && !(q.1 + 1 == i && q.2.category == 2)))) : ls'[0]? = some (.val (.ref b)) := by
  refine h'.2.2 (0, .ref b) (List.mem_cons_of_mem _ (List.mem_filter.mpr ⟨List.mem_cons_self, ?_⟩))
  have : ¬ 0 = i := fun q => hi q.symm
  simp [Value.category, this]
theorem z_sub0 {nL i b : Nat} {ls' : Array Slot} {L : List (Nat × Value)} {w : Value} (h' : lv_has ls' nL ((i, w) :: ((0, Value.ref b) :: L).filter (fun q => !(q.1 == i) && !(q.1 + 1 == i && q.2.category == 2)))) : lv_has ls' nL ((i, w) :: L.filter (fun q => !(q.1 == i) && !(q.1 + 1 == i && q.2.category == 2))) := by
  refine ⟨h'.1, h'.2.1, fun q hq => h'.2.2 q ?_⟩
  rcases List.mem_cons.mp hq with rfl | hq
  · exact List.mem_cons_self
  · obtain ⟨h1, h2⟩ := List.mem_filter.mp hq
    exact List.mem_cons_of_mem _ (List.mem_filter.mpr ⟨List.mem_cons_of_mem _ h1, h2⟩)
section YL
variable {Cx : z_CT} {Qx : z_QT} {b0 : Nat} {M M' : z_M} {d mc ms rc rs rc' rs' mc' ms' : Nat} {r' : Option Value} {X X2 : z_X} {pc : Nat} {lv : List (Option Value)} {st stk : List Value} {idx na : Nat} {as : List Value}
theorem zy_istore {i : Nat} {x : Int32} (hd : decode M.2.1 pc = .ok (.istore i, 2)) (hn : i < M.2.2.1) (hi : i ≠ 0) (kk : z_Y Cx Qx b0 M d mc ms rc rs (pc + 2) (lv.set i (some (.int x))) st X) : z_Y Cx Qx b0 M d mc ms rc rs pc lv (.int x :: st) X := by
  intro p l e s m args below meth c D dA A n0 h0 h H ls locs cells slots CX hb0 C hat hS hl hst hc hs
  exact lv_istore C.1 C.2.1 hd (hl.has0 hb0) hn rfl (fun ls' h' => kk p l e s m args below meth c D dA A n0 h0 h H ls' locs cells slots CX (z_keep0 hi h') C hat hS (hl.put z_sv.int rfl (z_sub0 h')) (fun v hv => hst v (List.mem_cons_of_mem _ hv)) hc hs)
theorem zy_astore_n {k : Fin 4} {i x : Nat} (hd : decode M.2.1 pc = .ok (.astore_n k, 1)) (hki : (k : Nat) = i) (hn : i < M.2.2.1) (hi : i ≠ 0) (kk : z_Y Cx Qx b0 M d mc ms rc rs (pc + 1) (lv.set i (some (.ref x))) st X) : z_Y Cx Qx b0 M d mc ms rc rs pc lv (.ref x :: st) X := by
  intro p l e s m args below meth c D dA A n0 h0 h H ls locs cells slots CX hb0 C hat hS hl hst hc hs
  exact lv_astore_n C.1 C.2.1 hd hki (hl.has0 hb0) hn rfl (fun ls' h' => kk p l e s m args below meth c D dA A n0 h0 h H ls' locs cells slots CX (z_keep0 hi h') C hat hS (hl.put (v := .ref x) (hst _ List.mem_cons_self) rfl (z_sub0 h')) (fun v hv => hst v (List.mem_cons_of_mem _ hv)) hc hs)
theorem zy_iinc {i : Nat} {n : Int} {x z : Int32} (hd : decode M.2.1 pc = .ok (.iinc i n, 3)) (hv : lv[i]? = some (some (.int x))) (hz : x + Int32.ofInt n = z) (hn : i < M.2.2.1) (hi : i ≠ 0) (kk : z_Y Cx Qx b0 M d mc ms rc rs (pc + 3) (lv.set i (some (.int z))) st X) : z_Y Cx Qx b0 M d mc ms rc rs pc lv st X := by
  intro p l e s m args below meth c D dA A n0 h0 h H ls locs cells slots CX hb0 C hat hS hl hst hc hs
  obtain ⟨k, hk⟩ := List.getElem?_of_mem (List.mem_cons_of_mem (0, Value.ref b0) (z_L.mem.mpr ⟨.int x, hv, rfl⟩ : (i, z_v h (.int x)) ∈ z_L h lv))
  exact lv_iinc C.1 C.2.1 hd (hl.has0 hb0) hk hz hn rfl (fun ls' h' => kk p l e s m args below meth c D dA A n0 h0 h H ls' locs cells slots CX (z_keep0 hi h') C hat hS (hl.put (v := .int z) z_sv.int rfl (z_sub0 h')) hst hc hs)
theorem zy_lcmp {x y : Int64} (hd : decode M.2.1 pc = .ok (.lcmp, 1)) (kk : z_Y Cx Qx b0 M d mc ms rc rs (pc + 1) lv (.int (lg_cmp x y) :: st) X) : z_Y Cx Qx b0 M d mc ms rc rs pc lv (.long y :: .long x :: st) X :=
  zy_pure (fun hst => hst.tl.tl.cons z_sv.int) (fun _ hx hb k => W.lcmp hx hb hd k) kk
theorem zy_callH {b L : Nat} {xs : Nat → Int32} {hh : List (Nat × Nat × Nat × Nat)} (hd : decode M.2.1 pc = .ok (.invokestatic idx, 3)) (hl : z_lH M.1.cls idx M' hh na) (hsp : z_HV M' hh d mc' ms' as X r' X2) (hstk : as.reverse ++ st = stk) (hn : as.length = na) (hrest : (st.map fun v => v.category).sum ≤ 8) (hb : mc' + rc' ≤ rc ∧ ms' + rs' ≤ rs)
    (kk : z_Y (z_lc b L xs) Qx b0 M (d + 1) mc ms rc' rs' (pc + 3) lv (r'.toList ++ st) X2) : z_Y (z_lc b L xs) Qx b0 M (d + 1) mc ms rc rs pc lv stk X := by
  subst hstk
  intro p l e s m args below meth c D dA A n0 h0 h H ls locs cells slots CX hb0 C hat hS hlv hst hc hs
  obtain ⟨hx', hb', hml, hret, hown, hts, hlk, hnm, hK, hA, hnw, hstt⟩ := id C
  have hso : z_sl X.1 as := fun v hv => hst v (List.mem_append_left _ (List.mem_reverse.mpr hv))
  have hst' : z_sl X.1 st := fun v hv => hst v (List.mem_append_right _ hv)
  have hw := hl.1
  refine zy_after (a := (as.map (z_v h)).toArray) (vx_runSW (hh := hh) (bytes := M'.2.1) (maxL := M'.2.2.1) (ret := M'.2.2.2) (As := as.map (z_v h)) (rest := st.map (z_v h)) (n := na) (Pc := z_XPc l dA D h H.size as X) (Qc := z_Qc r' X2 D dA (va_A (z_ws dA h X) H.size) X.1 h) ⟨hx', hb', hml, hown, hts⟩ (hsp l D dA h H.size) (vx_cwSW na hts (z_good ?_) rfl rfl rfl hl.2.1 ⟨?_, ?_⟩) ⟨z_xblind, z_xpre CX.1 C hat hS hso⟩ rfl (by rw [List.length_map]; exact hn) hlv.1 (by simp) (lv_room (by rw [z_cats]; exact hrest)) hd ⟨?_, ?_⟩) CX hb0 C hat hS hlv hst' hc hs hb kk
  · intro w h2
    rcases List.mem_append.mp h2 with h2 | h2
    · exact hw w (by simp at h2 ⊢; rcases h2 with h2 | h2 | h2 <;> simp [h2])
    · rcases List.mem_cons.mp h2 with rfl | h2
      · exact hw _ (by simp)
      · exact h2
  · show d + 1 + 1 ≤ d + 1 + 1; omega
  · show 8 + (M'.2.2.1 + 11) + (34 * d + 40) ≤ 34 * (d + 1) + 40
    have := hl.2.2
    omega
  · show cells + mc' ≤ mc; omega
  · show slots + ms' ≤ ms; omega
/-- script[i + k] -/
theorem zy_scr {L : Nat} {xs : Nat → Int32} {iv k : Nat} {kv : Int} {j : Nat} (d0 : decode M.2.1 pc = .ok (.aload_n 0, 1)) (d1 : decode M.2.1 (pc + 1) = .ok (.iload iv, 2)) (d3 : decode M.2.1 (pc + 3) = .ok (.iconst kv, 1)) (d4 : decode M.2.1 (pc + 4) = .ok (.iadd, 1)) (d5 : decode M.2.1 (pc + 5) = .ok (.iaload, 1))
    (hk : Int32.ofInt kv = nI k) (hv : lv[iv]? = some (some (.int (nI j)))) (hj : j + k < L) (hL : L ≤ 2048) (kk : z_Y (z_lc b0 L xs) Qx b0 M d mc ms rc rs (pc + 6) lv (.int (xs (j + k)) :: st) X) : z_Y (z_lc b0 L xs) Qx b0 M d mc ms rc rs pc lv st X := by
  intro p l e s m args below meth c D dA A n0 h0 h H ls locs cells slots CX hb0 C hat hS hl hst hc hs
  have k2 := kk p l e s m args below meth c D dA A n0 h0 h H ls locs cells slots CX hb0 C hat hS hl (hst.cons z_sv.int) hc hs
  obtain ⟨-, hX, hbl, hbA⟩ := CX
  have e1 : nI j + nI k = nI (j + k) := nI_add j k
  have e2 : (nI (j + k)).toNatClampNeg = j + k := nI_clamp (by omega)
  refine lv_aload_n C.1 C.2.1 d0 rfl hb0 (lv_iload C.1 C.2.1 d1 (hl.2.2 iv _ hv).1 (lv_iconst C.1 C.2.1 d3 hk (lv_iadd C.1 C.2.1 d4 ?_)))
  rw [e1]
  refine va_sld C.1 C.2.1 hX hbl hbA hS (fun q => ?_) d5 ?_
  · rw [e2] at q
    exact q.elim (nI_pos (by omega)) (fun q => absurd hj (by omega))
  · rw [e2]
    exact k2
/-- script[i] -/
theorem zy_scr0 {L : Nat} {xs : Nat → Int32} {iv : Nat} {j : Nat} (d0 : decode M.2.1 pc = .ok (.aload_n 0, 1)) (d1 : decode M.2.1 (pc + 1) = .ok (.iload iv, 2)) (d3 : decode M.2.1 (pc + 3) = .ok (.iaload, 1))
    (hv : lv[iv]? = some (some (.int (nI j)))) (hj : j < L) (hL : L ≤ 2048) (kk : z_Y (z_lc b0 L xs) Qx b0 M d mc ms rc rs (pc + 4) lv (.int (xs j) :: st) X) : z_Y (z_lc b0 L xs) Qx b0 M d mc ms rc rs pc lv st X := by
  intro p l e s m args below meth c D dA A n0 h0 h H ls locs cells slots CX hb0 C hat hS hl hst hc hs
  have k2 := kk p l e s m args below meth c D dA A n0 h0 h H ls locs cells slots CX hb0 C hat hS hl (hst.cons z_sv.int) hc hs
  obtain ⟨-, hX, hbl, hbA⟩ := CX
  have e2 : (nI j).toNatClampNeg = j := nI_clamp (by omega)
  refine lv_aload_n C.1 C.2.1 d0 rfl hb0 (lv_iload C.1 C.2.1 d1 (hl.2.2 iv _ hv).1 ?_)
  refine va_sld C.1 C.2.1 hX hbl hbA hS (fun q => ?_) d3 ?_
  · rw [e2] at q
    exact q.elim (nI_pos (by omega)) (fun q => absurd hj (by omega))
  · rw [e2]
    exact k2
/-- script.length - 4 -/
theorem zy_len {L : Nat} {xs : Nat → Int32} (d0 : decode M.2.1 pc = .ok (.aload_n 0, 1)) (d1 : decode M.2.1 (pc + 1) = .ok (.arraylength, 1)) (d2 : decode M.2.1 (pc + 2) = .ok (.iconst 4, 1)) (d3 : decode M.2.1 (pc + 3) = .ok (.isub, 1))
    (kk : z_Y (z_lc b0 L xs) Qx b0 M d mc ms rc rs (pc + 4) lv (.int (nI L - nI 4) :: st) X) : z_Y (z_lc b0 L xs) Qx b0 M d mc ms rc rs pc lv st X := by
  intro p l e s m args below meth c D dA A n0 h0 h H ls locs cells slots CX hb0 C hat hS hl hst hc hs
  have k2 := kk p l e s m args below meth c D dA A n0 h0 h H ls locs cells slots CX hb0 C hat hS hl (hst.cons z_sv.int) hc hs
  obtain ⟨-, hX, hbl, hbA⟩ := CX
  exact lv_aload_n C.1 C.2.1 d0 rfl hb0 (va_slen C.1 C.2.1 hX hbl hbA hS d1 (lv_iconst C.1 C.2.1 d2 (show Int32.ofInt 4 = nI 4 by decide) (lv_isub C.1 C.2.1 d3 k2)))
end YL
