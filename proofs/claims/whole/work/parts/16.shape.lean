/-! PART 16: the shape of the two systems; calls with and without an answer -/
def z_rt : List (List (Option Nat)) := [[some 1, some 6, some 9, some 11, some 12, some 16, some 19, some 27, none, none, none, none, none], [some 2, some 3, none, some 4, some 5, none], [], [], [], [], [some 7, some 8, none, none], [], [], [some 10, none, none], [], [], [some 13, some 14, some 15], [], [], [], [some 17, some 18, none, none], [], [], [some 20, some 23, some 24, none, some 25, some 26], [some 21, some 22, none, none], [], [], [], [], [], [], [some 28, some 44, some 60, some 76], [some 29, some 34, some 40, none, none, none, some 41, some 42, some 43, none], [some 30, some 31, some 32, some 33, none], [], [], [], [], [some 35, some 36, some 37, some 38, some 39, none], [], [], [], [], [], [], [], [], [], [some 45, some 50, some 56, none, none, none, some 57, some 58, some 59, none], [some 46, some 47, some 48, some 49, none], [], [], [], [], [some 51, some 52, some 53, some 54, some 55, none], [], [], [], [], [], [], [], [], [], [some 61, some 66, some 72, none, none, none, some 73, some 74, some 75, none], [some 62, some 63, some 64, some 65, none], [], [], [], [], [some 67, some 68, some 69, some 70, some 71, none], [], [], [], [], [], [], [], [], [], [some 77, some 82, some 88, none, none, none, some 89, some 90, some 91, none], [some 78, some 79, some 80, some 81, none], [], [], [], [], [some 83, some 84, some 85, some 86, some 87, none], [], [], [], [], [], [], [], [], [], [none, none, some 93, some 94, some 95, none, none, none, some 96, none, some 97, none, some 98, some 99, some 100, none, none, some 101, some 102, none, none, some 103, some 104, some 105, some 106, some 107, some 108, some 109, some 110, some 111, some 112, none, none, none, none, none, some 113, some 114, some 115, some 116, some 117, some 118, some 119, some 120, none, some 121, some 122], [], [], [], [], [], [], [], [], [], [], [], [], [], [], [], [], [], [], [], [], [], [], [], [], [], [], [], [], [], [], []]
def z_r0 (i j : Nat) : Option Nat := (z_rt.getD i []).getD j none
theorem fr_k {f : Nat} (hf : f = 6 ∨ f = 20) : z_k f = (0, 1) ∧ z_k (f + 1) = (1, 6) ∧ z_k (f + 2) = (1, 6) ∧ z_r0 f 0 = some (f + 1) ∧ z_r0 f 1 = some (f + 2) := by
  rcases hf with rfl | rfl <;> exact ⟨rfl, rfl, rfl, rfl, rfl⟩
/-- the number of trace t -/
def tr (t : Nat) : Nat := 28 + 16 * t
theorem tr_k {t : Nat} (ht : t < 4) : z_k (tr t) = (0, 7) ∧ z_k (tr t + 1) = (0, 9) ∧ z_k (tr t + 2) = (1, 36) ∧ z_k (tr t + 3) = (1, 36) ∧ z_k (tr t + 4) = (1, 36) ∧ z_k (tr t + 5) = (1, 36) ∧ z_k (tr t + 6) = (0, 3) ∧ z_k (tr t + 7) = (1, 15) ∧ z_k (tr t + 8) = (2, 15) ∧ z_k (tr t + 9) = (1, 15) ∧ z_k (tr t + 10) = (1, 15) ∧ z_k (tr t + 11) = (1, 180) ∧ z_k (tr t + 12) = (1, 6) ∧ z_k (tr t + 13) = (1, 30) ∧ z_k (tr t + 14) = (1, 30) ∧ z_k (tr t + 15) = (1, 30) := by
  match t, ht with
  | 0, _ => exact ⟨rfl, rfl, rfl, rfl, rfl, rfl, rfl, rfl, rfl, rfl, rfl, rfl, rfl, rfl, rfl, rfl⟩
  | 1, _ => exact ⟨rfl, rfl, rfl, rfl, rfl, rfl, rfl, rfl, rfl, rfl, rfl, rfl, rfl, rfl, rfl, rfl⟩
  | 2, _ => exact ⟨rfl, rfl, rfl, rfl, rfl, rfl, rfl, rfl, rfl, rfl, rfl, rfl, rfl, rfl, rfl, rfl⟩
  | 3, _ => exact ⟨rfl, rfl, rfl, rfl, rfl, rfl, rfl, rfl, rfl, rfl, rfl, rfl, rfl, rfl, rfl, rfl⟩
theorem tr_r {t : Nat} (ht : t < 4) : z_r0 27 t = some (tr t) ∧ z_r0 (tr t) 0 = some (tr t + 1) ∧ z_r0 (tr t) 1 = some (tr t + 6) ∧ z_r0 (tr t) 2 = some (tr t + 12) ∧ z_r0 (tr t) 6 = some (tr t + 13) ∧ z_r0 (tr t) 7 = some (tr t + 14) ∧ z_r0 (tr t) 8 = some (tr t + 15) ∧
    z_r0 (tr t + 1) 0 = some (tr t + 2) ∧ z_r0 (tr t + 1) 1 = some (tr t + 3) ∧ z_r0 (tr t + 1) 2 = some (tr t + 4) ∧ z_r0 (tr t + 1) 3 = some (tr t + 5) ∧
    z_r0 (tr t + 6) 0 = some (tr t + 7) ∧ z_r0 (tr t + 6) 1 = some (tr t + 8) ∧ z_r0 (tr t + 6) 2 = some (tr t + 9) ∧ z_r0 (tr t + 6) 3 = some (tr t + 10) ∧ z_r0 (tr t + 6) 4 = some (tr t + 11) := by
  match t, ht with
  | 0, _ => exact ⟨rfl, rfl, rfl, rfl, rfl, rfl, rfl, rfl, rfl, rfl, rfl, rfl, rfl, rfl, rfl, rfl⟩
  | 1, _ => exact ⟨rfl, rfl, rfl, rfl, rfl, rfl, rfl, rfl, rfl, rfl, rfl, rfl, rfl, rfl, rfl, rfl⟩
  | 2, _ => exact ⟨rfl, rfl, rfl, rfl, rfl, rfl, rfl, rfl, rfl, rfl, rfl, rfl, rfl, rfl, rfl, rfl⟩
  | 3, _ => exact ⟨rfl, rfl, rfl, rfl, rfl, rfl, rfl, rfl, rfl, rfl, rfl, rfl, rfl, rfl, rfl, rfl⟩
section ZC
variable {M M' : z_M} {d mc ms rc rs rc' rs' mc' ms' : Nat} {r : Option Value} {v : Value} {X X1 X2 : z_X} {pc : Nat} {lv : List (Option Value)} {st stk : List Value} {idx na : Nat} {as : List Value} {o ci : Nat}
theorem z_cV1 (hd : decode M.2.1 pc = .ok (.invokevirtual idx, 3)) (hl : z_lV M.1.cls idx M' na) (hsp : z_MV M' d 0 0 (.ref o :: as) X (some v) X2) (hk : z_k o = (0, ci)) (hci : ci < 12 ∧ z_R ci = M'.1.cls) (hstk : as.reverse ++ .ref o :: st = stk) (hn : as.length = na) (hrest : (st.map fun v => v.category).sum ≤ 8)
    (kk : z_V M (d + 1) mc ms rc rs r X1 (pc + 3) lv (v :: st) X2) : z_V M (d + 1) mc ms rc rs r X1 pc lv stk X := z_callV hd hl hsp hk hci hstk hn hrest ⟨by omega, by omega⟩ kk
theorem z_cV0 (hd : decode M.2.1 pc = .ok (.invokevirtual idx, 3)) (hl : z_lV M.1.cls idx M' na) (hsp : z_MV M' d 0 0 (.ref o :: as) X none X2) (hk : z_k o = (0, ci)) (hci : ci < 12 ∧ z_R ci = M'.1.cls) (hstk : as.reverse ++ .ref o :: st = stk) (hn : as.length = na) (hrest : (st.map fun v => v.category).sum ≤ 8)
    (kk : z_V M (d + 1) mc ms rc rs r X1 (pc + 3) lv st X2) : z_V M (d + 1) mc ms rc rs r X1 pc lv stk X := z_callV hd hl hsp hk hci hstk hn hrest ⟨by omega, by omega⟩ kk
theorem z_cS1 (hd : decode M.2.1 pc = .ok (.invokestatic idx, 3)) (hl : z_lS M.1.cls idx M' na) (hsp : z_MV M' d 0 0 as X (some v) X2) (hstk : as.reverse ++ st = stk) (hn : as.length = na) (hrest : (st.map fun v => v.category).sum ≤ 8)
    (kk : z_V M (d + 1) mc ms rc rs r X1 (pc + 3) lv (v :: st) X2) : z_V M (d + 1) mc ms rc rs r X1 pc lv stk X := z_callS hd hl hsp hstk hn hrest ⟨by omega, by omega⟩ kk
theorem z_cS0 (hd : decode M.2.1 pc = .ok (.invokestatic idx, 3)) (hl : z_lS M.1.cls idx M' na) (hsp : z_MV M' d 0 0 as X none X2) (hstk : as.reverse ++ st = stk) (hn : as.length = na) (hrest : (st.map fun v => v.category).sum ≤ 8)
    (kk : z_V M (d + 1) mc ms rc rs r X1 (pc + 3) lv st X2) : z_V M (d + 1) mc ms rc rs r X1 pc lv stk X := z_callS hd hl hsp hstk hn hrest ⟨by omega, by omega⟩ kk
end ZC
theorem z_up_s {α : Type} (f : Nat → Nat → α) (i j : Nat) (x : α) : z_up f i j x i j = x := by simp [z_up]
theorem z_up_o {α : Type} (f : Nat → Nat → α) {i j a b : Nat} (x : α) (h : a ≠ i ∨ b ≠ j) : z_up f i j x a b = f a b := by
  unfold z_up
  rw [if_neg]
  rintro ⟨h1, h2⟩
  rcases h with h | h
  · exact h h1
  · exact h h2
theorem z_ofF {l : Launch} {y : MethodName} {ws ws' : List Cond} {rm : Room} {Pc : Array Value → State → Prop} {Qc : Array Value → State → Outcome → State → Prop} {mc ms : Nat} {free : Addr → Prop} {cc : ByteArray} {maxL : Nat} {ret : Option FieldType}
    (hy : plainFor y = true) (hw : ws = Cond.code y cc maxL ret :: ws')
    (body : ∀ p e s m args below meth c s₁, BodyLoose p l y (headSpec ws rm) cc maxL ret e s m args below meth c s₁ → c.maxLocals = maxL → Pc args s →
      W p l e (headSpec ws rm).room s m args below meth c s.heap [] 0 0 (MQ below Qc args s mc ms free) (entryFrame m args maxL)) : Met l y ws rm Pc Qc mc ms free := by
  refine MetFree.of_bodySF (code := cc) (maxLocals := maxL) (ret := ret) hy ?_ ?_
  · intro args s m h hn
    obtain ⟨meth, c, h1, h2, h3, h4, h5, h6, -, -⟩ := Cond.code_spec hn (atoms_spec (ws := ws) h _ (by rw [hw]; exact List.mem_cons_self))
    exact ⟨meth, c, h1, h2, h3, h4, h5, h6⟩
  · intro p e s m args below meth c s₁ B hml hP _
    have hh0 : s₁.heap = s.heap := by rw [B.state]; rfl
    obtain ⟨t, a1, o, b1, b2, b3⟩ := body p e s m args below meth c s₁ B hml hP s₁ hh0 (Stand.of_body B)
    exact ⟨t, o, a1, b1, b2, ⟨b3.1, b3.2⟩⟩
theorem z_MV.ofF {M : z_M} {d mc ms : Nat} {as : List Value} {X X1 : z_X} {r : Option Value} {lv : List (Option Value)} (hy : plainFor M.1 = true) (hlen : as.length ≤ M.2.2.1) (hcat : ∀ v ∈ as, v.category = 1) (hlv : as.map some ++ List.replicate (M.2.2.1 - as.length) none = lv)
    (k : z_V M d mc ms mc ms r X1 0 lv [] X) : z_MV M d mc ms as X r X1 := by
  subst hlv
  intro l D dA h sz
  refine z_ofF (cc := M.2.1) (maxL := M.2.2.1) (ret := M.2.2.2) hy rfl ?_
  intro p e s m args below meth c s₁ B hml hv
  obtain ⟨rfl, hsz, hK, hP, hD0, hsc, hsl, hnw, hst⟩ := hv
  have hts := atoms_spec (ws := z_w M) B.pre
  have hown : s.vm.findClass M.1.cls = some m.cls := findClass_of_methodNamed B.named
  have hin : meth.name = M.1.name := (name_of_methodNamed B.named B.method).1
  subst hsz
  have hD := hD0.self (sz := s.heap.size)
  have hcat' : ∀ v ∈ as.map (z_v h), v.category = 1 := fun v hv => by
    obtain ⟨w, hw, rfl⟩ := List.mem_map.mp hv
    rw [z_v_cat]
    exact hcat w hw
  have hl := lv_entry (as.map (z_v h)) (n := M.2.2.1) (by rw [z_sl_args hcat', List.length_map]; exact hlen)
  rw [lg_entry_eq]
  generalize (lg_sl (as.map (z_v h)) ++ List.replicate (M.2.2.1 - (lg_sl (as.map (z_v h))).length) Slot.unset).toArray = ls at hl ⊢
  refine k p l e s m _ below meth c D dA (va_A (z_ws dA h X) s.heap.size) X.1 h h s.heap ls [] 0 0 ⟨B.exec, B.bytes, hml, B.returns, hown, fun w hw => hts w (List.mem_cons_of_mem _ hw), B.notSynchronized, hin, hK, fun q hq => Or.inr hq, hnw, hst⟩ ⟨Nat.le_refl _, fun _ _ => rfl, hsc, hP, hD⟩ va_S.rf ⟨hl.1, hl.2.1, fun i v hv => ?_⟩ (fun v hv => by cases hv) (by omega) (by omega)
  have hv2 : as[i]? = some v := by
    rw [List.getElem?_append] at hv
    split at hv
    · rw [List.getElem?_map] at hv
      cases hq : as[i]? with
      | none => rw [hq] at hv; cases hv
      | some w => rw [hq] at hv; cases hv; rfl
    · have := List.eq_of_mem_replicate (List.mem_of_getElem? hv)
      cases this
  have hm := List.mem_of_getElem? hv2
  refine ⟨hl.2.2 (i, z_v h v) ?_, hsl v hm, hcat v hm⟩
  have := z_args_mem hcat' 0 i (z_v h v) (by rw [List.getElem?_map, hv2]; rfl)
  rwa [Nat.zero_add] at this
