/-! PART 10: THE PICTURE. Cells have numbers in the order in which they are made; references are numbers of cells; h tells the addresses. -/
def z_kt : List (Nat × Nat) := [(0, 10), (0, 0), (1, 40), (1, 40), (1, 40), (1, 40), (0, 1), (1, 6), (1, 6), (0, 2), (1, 30), (0, 6), (0, 4), (1, 40), (1, 40), (1, 40), (0, 5), (1, 30), (2, 30), (0, 8), (0, 1), (1, 6), (1, 6), (1, 30), (1, 30), (2, 36), (2, 36), (4, 4), (0, 7), (0, 9), (1, 36), (1, 36), (1, 36), (1, 36), (0, 3), (1, 15), (2, 15), (1, 15), (1, 15), (1, 180), (1, 6), (1, 30), (1, 30), (1, 30), (0, 7), (0, 9), (1, 36), (1, 36), (1, 36), (1, 36), (0, 3), (1, 15), (2, 15), (1, 15), (1, 15), (1, 180), (1, 6), (1, 30), (1, 30), (1, 30), (0, 7), (0, 9), (1, 36), (1, 36), (1, 36), (1, 36), (0, 3), (1, 15), (2, 15), (1, 15), (1, 15), (1, 180), (1, 6), (1, 30), (1, 30), (1, 30), (0, 7), (0, 9), (1, 36), (1, 36), (1, 36), (1, 36), (0, 3), (1, 15), (2, 15), (1, 15), (1, 15), (1, 180), (1, 6), (1, 30), (1, 30), (1, 30), (0, 11), (1, 40), (1, 40), (1, 40), (1, 6), (1, 8), (1, 30), (1, 40), (1, 40), (1, 30), (2, 30), (1, 4), (1, 4), (1, 120), (2, 120), (1, 120), (1, 4), (1, 4), (1, 4), (1, 4), (1, 4), (1, 40), (1, 40), (1, 40), (1, 40), (2, 40), (2, 40), (1, 40), (1, 6), (1, 8), (1, 30), (3, 1)]
def z_k (i : Nat) : Nat × Nat := z_kt.getD i (0, 0)
def z_nf (c : Nat) : Nat := match c with
  | 0 => 6
  | 1 => 4
  | 2 => 3
  | 3 => 6
  | 4 => 3
  | 5 => 4
  | 6 => 4
  | 7 => 10
  | 8 => 6
  | 9 => 5
  | 10 => 13
  | _ => 47
def z_ty (c : Nat) : Nat → FieldType := match c with
  | 0 => tyX0
  | 1 => tyX1
  | 2 => tyX2
  | 3 => tyX3
  | 4 => tyX4
  | 5 => tyX5
  | 6 => tyX6
  | 7 => tyX7
  | 8 => tyX8
  | 9 => tyX9
  | 10 => tyX10
  | _ => tyX11
def z_T (c : Nat) : u_T := match c with
  | 0 => TX0
  | 1 => TX1
  | 2 => TX2
  | 3 => TX3
  | 4 => TX4
  | 5 => TX5
  | 6 => TX6
  | 7 => TX7
  | 8 => TX8
  | 9 => TX9
  | 10 => TX10
  | _ => TX11
def z_R (c : Nat) : String := match c with
  | 0 => RX0
  | 1 => RX1
  | 2 => RX2
  | 3 => RX3
  | 4 => RX4
  | 5 => RX5
  | 6 => RX6
  | 7 => RX7
  | 8 => RX8
  | 9 => RX9
  | 10 => RX10
  | _ => RX11
def z_rf (c j : Nat) : Bool := match z_ty c j with
  | .array _ => true
  | .object _ => true
  | _ => false
/-- a value of the picture, as the machine has it -/
def z_v (h : Nat → Nat) : Value → Value
  | .ref i => .ref (h i)
  | x => x
/-- a state of the picture: how many cells there are; references, ints and longs in their slots -/
abbrev z_X : Type := Nat × (Nat → Nat → Option Nat) × (Nat → Nat → Int32) × (Nat → Nat → Int64)
def z_ent (dA : Nat → ClassId) (h : Nat → Nat) (k : Nat × Nat) (f : Nat → Option Nat) (x : Nat → Int32) (t : Nat → Int64) : va_E :=
  match k.1 with
  | 0 => .inr (k.2, (List.range (z_nf k.2)).map fun j => bif z_rf k.2 j then va_rf ((f j).map h) else .int (x j))
  | 1 => .inl (dA 0, k.2, .inl x)
  | 2 => .inl (dA 1, k.2, .inl x)
  | 3 => .inl (dA 2, k.2, .inr (.inl t))
  | _ => .inl (dA 3, k.2, .inr (.inr (.inr (.inr fun j => (f j).map h))))
def z_tys (dA : Nat → ClassId) : List (ClassId × FieldType) := [(dA 0, .int), (dA 1, .boolean), (dA 2, .long), (dA 3, .object "TraceTier$Trace")]
def z_ws (dA : Nat → ClassId) (h : Nat → Nat) (X : z_X) : va_W := (List.range X.1).map fun i => (h i, z_ent dA h (z_k i) (X.2.1 i) (X.2.2.1 i) (X.2.2.2 i))
/-- a method: name, code, locals, what it returns -/
abbrev z_M : Type := MethodName × ByteArray × Nat × Option FieldType
def z_G : List Cond := lw_tbl.filter goodWord
def z_nest (w : Cond) : Bool := match w with
  | .fieldLinkNest _ _ _ _ _ _ => true
  | .methodLinkNest _ _ _ _ => true
  | _ => false
def z_N : List Cond := lw_tbl.filter z_nest
def z_w (M : z_M) : List Cond := .code M.1 M.2.1 M.2.2.1 M.2.2.2 :: z_G
def z_rm (d mc ms : Nat) : Room := { frames := d + 1, cells := mc, slots := ms, locals := 34 * d + 40 }
def z_sv (n : Nat) (v : Value) : Prop := ∀ i, v = .ref i → i < n
def z_sl (n : Nat) (st : List Value) : Prop := ∀ v ∈ st, z_sv n v
def z_sc (X : z_X) : Prop := ∀ i, i < X.1 → ∀ j k, X.2.1 i j = some k → k < X.1
def z_nw (U : State) : Prop := (∀ w ∈ z_N, va_Nw w U) ∧ va_AO "TraceTier$Trace" U
def z_takes (j : Nat) : Int32 := ([0, 0, 1, 2, 2, 2, 2, 2, 2, 1, 1, 2, 1, 0, 1, 0] : List Int32).getD j 0
def z_gives (j : Nat) : Int32 := ([1, 1, 0, 1, 1, 1, 1, 1, 1, 2, 0, 2, 0, 0, 0, 0] : List Int32).getD j 0
def z_sts : List (String × (Nat → Int32)) := [("TAKES", z_takes), ("GIVES", z_gives)]
/-- the class's static tables, outside of what a method may change -/
def z_st (A : Nat → Prop) (U : State) (H : Heap) : Prop := ∀ q ∈ z_sts, ∃ t : Nat, va_Z "TraceTier" q.1 "[I" (.ref t) A U H ∧ va_T .int t 16 (fun j => .int (q.2 j)) A U H
def z_C (M : z_M) (p : Program) (s : State) (m : MethodId) (args : Array Value) (meth : Method) (c : Code) (D : va_G) (dA : Nat → ClassId) (A : Nat → Prop) : Prop :=
  p.tables.exec = Jvm.exec ∧ c.code = M.2.1 ∧ c.maxLocals = M.2.2.1 ∧ meth.sig.returnType = M.2.2.2 ∧ s.vm.findClass M.1.cls = some m.cls ∧ (∀ w ∈ z_G, w.before args s = true) ∧ meth.locks = false ∧ meth.name = M.1.name ∧ va_K D vwCl (z_tys dA) s ∧ (∀ q, s.heap.size ≤ q → A q) ∧ z_nw s ∧ z_st A s s.heap
/-- the heap holds the picture X at the addresses h, which goes on from h0 -/
def z_at (D : va_G) (dA : Nat → ClassId) (A : Nat → Prop) (n0 : Nat) (h0 h : Nat → Nat) (X : z_X) (H : Heap) : Prop :=
  n0 ≤ X.1 ∧ (∀ i, i < n0 → h i = h0 i) ∧ z_sc X ∧ va_P D vwCl (z_ws dA h X) H ∧ va_D A (z_ws dA h X)
def z_Qc (r : Option Value) (X1 : z_X) (D : va_G) (dA : Nat → ClassId) (A : Nat → Prop) (n0 : Nat) (h0 : Nat → Nat) : Array Value → State → Outcome → State → Prop := fun _ st oc t =>
  (∃ h : Nat → Nat, oc = .returned (r.map (z_v h)) ∧ z_at D dA A n0 h0 h X1 t.heap ∧ ∀ v, r = some v → z_sv X1.1 v) ∧ va_F A st t
def z_lv (nL : Nat) (h : Nat → Nat) (n : Nat) (ls : Array Slot) (lv : List (Option Value)) : Prop :=
  ls.size = nL ∧ lv_wf ls ∧ ∀ (i : Nat) (v : Value), lv[i]? = some (some v) → ls[i]? = some (.val (z_v h v)) ∧ z_sv n v ∧ v.category = 1
/-- from pc, with these locals, this stack and the picture X, the method returns r with the picture X1; rc cells and rs slots are left to be made -/
def z_V (M : z_M) (d mc ms rc rs : Nat) (r : Option Value) (X1 : z_X) (pc : Nat) (lv : List (Option Value)) (st : List Value) (X : z_X) : Prop :=
  ∀ (p : Program) (l : Launch) (e : Env) (s : State) (m : MethodId) (args : Array Value) (below : List Frame) (meth : Method) (c : Code) (D : va_G) (dA : Nat → ClassId) (A : Nat → Prop) (n0 : Nat) (h0 h : Nat → Nat) (H : Heap) (ls : Array Slot) (locs : List Loc) (cells slots : Nat),
    z_C M p s m args meth c D dA A → z_at D dA A n0 h0 h X H → va_S A s.heap H locs → z_lv M.2.2.1 h X.1 ls lv → z_sl X.1 st → cells + rc ≤ mc → slots + rs ≤ ms →
    W p l e (z_rm d mc ms) s m args below meth c H locs cells slots (MQ below (z_Qc r X1 D dA A n0 h0) args s mc ms A) (F0 m pc ls (st.map (z_v h)))
/-- the method, called with these arguments in the picture X, returns r with the picture X1 -/
def z_MV (M : z_M) (d mc ms : Nat) (as : List Value) (X : z_X) (r : Option Value) (X1 : z_X) : Prop :=
  ∀ (l : Launch) (D : va_G) (dA : Nat → ClassId) (h : Nat → Nat) (sz : Nat), Met l M.1 (z_w M) (z_rm d mc ms)
    (va_Pc (as.map (z_v h)) (fun U => U.heap.size = sz ∧ va_K D vwCl (z_tys dA) U ∧ va_P D vwCl (z_ws dA h X) U.heap ∧ va_D (fun _ => True) (z_ws dA h X) ∧ z_sc X ∧ z_sl X.1 as ∧ z_nw U ∧ z_st (va_A (z_ws dA h X) sz) U U.heap))
    (z_Qc r X1 D dA (va_A (z_ws dA h X) sz) X.1 h) mc ms (va_A (z_ws dA h X) sz)
theorem z_sv.int {n : Nat} {x : Int32} : z_sv n (.int x) := fun _ h => by cases h
theorem z_sv.long {n : Nat} {x : Int64} : z_sv n (.long x) := fun _ h => by cases h
theorem z_sv.null {n : Nat} : z_sv n .null := fun _ h => by cases h
theorem z_sv.of {n i : Nat} (h : z_sv n (.ref i)) : i < n := h i rfl
theorem z_sv.mk {n i : Nat} (h : i < n) : z_sv n (.ref i) := fun _ q => by cases q; exact h
theorem z_sv.up {n n' : Nat} {v : Value} (h : z_sv n v) (hn : n ≤ n') : z_sv n' v := fun i q => Nat.lt_of_lt_of_le (h i q) hn
theorem z_sv.rf {n : Nat} {o : Option Nat} (h : ∀ k, o = some k → k < n) : z_sv n (va_rf o) := by
  cases o with
  | none => exact z_sv.null
  | some k => exact z_sv.mk (h k rfl)
theorem z_v_cat (h : Nat → Nat) (v : Value) : (z_v h v).category = v.category := by cases v <;> rfl
theorem z_v_eq {n : Nat} {h h1 : Nat → Nat} (he : ∀ i, i < n → h1 i = h i) {v : Value} (hv : z_sv n v) : z_v h1 v = z_v h v := by
  cases v with
  | ref i => show Value.ref (h1 i) = Value.ref (h i); rw [he i (hv i rfl)]
  | _ => rfl
theorem z_vs_eq {n : Nat} {h h1 : Nat → Nat} (he : ∀ i, i < n → h1 i = h i) {st : List Value} (hv : z_sl n st) : st.map (z_v h1) = st.map (z_v h) := List.map_congr_left fun v q => z_v_eq he (hv v q)
theorem z_rget {α : Type} (f : Nat → α) {n k : Nat} (h : k < n) : ((List.range n).map f)[k]? = some (f k) := by rw [List.getElem?_map, List.getElem?_range h]; rfl
theorem z_rset {α : Type} (f : Nat → α) (n k : Nat) (v : α) : ((List.range n).map f).set k v = (List.range n).map (fun j => if j = k then v else f j) := by
  apply List.ext_getElem?
  intro j
  rw [List.getElem?_set, List.getElem?_map, List.getElem?_map]
  by_cases hj : j < n
  · rw [List.getElem?_range hj]
    by_cases hk : k = j
    · subst hk; simp [hj]
    · have : ¬ j = k := fun q => hk q.symm
      simp [hk, this]
  · have hn : (List.range n)[j]? = none := by simp; omega
    rw [hn]
    by_cases hk : k = j
    · subst hk; simp; omega
    · simp [hk]
theorem z_rpush {α : Type} (f : Nat → α) (n : Nat) (v : α) : (List.range n).map f ++ [v] = (List.range (n + 1)).map (va_up f n v) := by
  rw [List.range_succ, List.map_append]
  congr 1
  · apply List.map_congr_left
    intro j hj
    have : ¬ j = n := by have := List.mem_range.mp hj; omega
    simp [va_up, this]
  · simp [va_up]
theorem z_nw.warm {s U : State} (hW : s.WarmedH U.vm) (h : z_nw s) : z_nw U := by
  refine ⟨?_, va_AO.moved hW.alike h.2⟩
  intro w hw
  have h1 := h.1 w hw
  have h2 := (List.mem_filter.mp hw).2
  cases w with
  | fieldLinkNest a i b n d g => exact va_Nw.warmF hW h1
  | methodLinkNest a i x g => exact va_Nw.warmM hW h1
  | _ => simp [z_nest] at h2
theorem z_st.moved {A : Nat → Prop} {u U : State} {H : Heap} (hvm : u.vm.Alike U.vm) (h : z_st A u H) : z_st A U H := fun q hq => by
  obtain ⟨t, h1, h2⟩ := h q hq
  exact ⟨t, va_Z.moved hvm h1, va_T.moved hvm h2⟩
theorem z_st.kept {A : Nat → Prop} {U : State} {H H1 : Heap} (h : z_st A U H) (hq : ∀ a : Nat, a < H.size → ¬ A a → H1[a]? = H[a]?) : z_st A U H1 := fun q hq' => by
  obtain ⟨t, h1, h2⟩ := h q hq'
  exact ⟨t, va_Z.kept h1 hq, va_T.kept h2 hq⟩
theorem z_st.narrow {A B : Nat → Prop} {U : State} {H : Heap} (h : z_st A U H) (hAB : ∀ q, B q → A q) : z_st B U H := fun q hq' => by
  obtain ⟨t, h1, h2⟩ := h q hq'
  exact ⟨t, va_Z.narrow h1 hAB, va_T.narrow h2 hAB⟩
section ZP
variable {M : z_M} {d mc ms rc rs : Nat} {r : Option Value} {X1 X : z_X} {pc pc' : Nat} {lv : List (Option Value)} {st st' : List Value}
theorem z_pure (hs : z_sl X.1 st → z_sl X.1 st')
    (hw : ∀ {p : Program} {l : Launch} {e : Env} {R : Room} {s : State} {m : MethodId} {args : Array Value} {below : List Frame} {meth : Method} {c : Code} {H : Heap} {locs : List Loc} {cells slots : Nat} {Q : State → Prop} {ls : Array Slot} (h : Nat → Nat), p.tables.exec = Jvm.exec → c.code = M.2.1 →
      W p l e R s m args below meth c H locs cells slots Q (F0 m pc' ls (st'.map (z_v h))) → W p l e R s m args below meth c H locs cells slots Q (F0 m pc ls (st.map (z_v h))))
    (k : z_V M d mc ms rc rs r X1 pc' lv st' X) : z_V M d mc ms rc rs r X1 pc lv st X := by
  intro p l e s m args below meth c D dA A n0 h0 h H ls locs cells slots C hat hS hl hst hc hs'
  exact hw h C.1 C.2.1 (k p l e s m args below meth c D dA A n0 h0 h H ls locs cells slots C hat hS hl (hs hst) hc hs')
end ZP

section ZB
variable {M : z_M} {d mc ms rc rs : Nat} {r : Option Value} {X1 X : z_X} {pc : Nat} {lv : List (Option Value)} {st : List Value}
theorem z_if_eq {x : Int32} {off : Int} {tgt : Nat} (hd : decode M.2.1 pc = .ok (.ifCond .eq off, 3)) (ht : (pc : Int) + off = (tgt : Int)) (kt : x = 0 → z_V M d mc ms rc rs r X1 tgt lv st X) (kf : ¬ x = 0 → z_V M d mc ms rc rs r X1 (pc + 3) lv st X) : z_V M d mc ms rc rs r X1 pc lv (.int x :: st) X := by
  intro p l e s m args below meth c D dA A n0 h0 h H ls locs cells slots C hat hS hl hst hc hs
  exact lv_if_eq C.1 C.2.1 hd ht (fun q => kt q p l e s m args below meth c D dA A n0 h0 h H ls locs cells slots C hat hS hl (fun v hv => hst v (by simp [hv])) hc hs) (fun q => kf q p l e s m args below meth c D dA A n0 h0 h H ls locs cells slots C hat hS hl (fun v hv => hst v (by simp [hv])) hc hs)
theorem z_icmp_eq {x y : Int32} {off : Int} {tgt : Nat} (hd : decode M.2.1 pc = .ok (.if_icmp .eq off, 3)) (ht : (pc : Int) + off = (tgt : Int)) (kt : x = y → z_V M d mc ms rc rs r X1 tgt lv st X) (kf : ¬ x = y → z_V M d mc ms rc rs r X1 (pc + 3) lv st X) : z_V M d mc ms rc rs r X1 pc lv (.int y :: .int x :: st) X := by
  intro p l e s m args below meth c D dA A n0 h0 h H ls locs cells slots C hat hS hl hst hc hs
  exact lv_icmp_eq C.1 C.2.1 hd ht (fun q => kt q p l e s m args below meth c D dA A n0 h0 h H ls locs cells slots C hat hS hl (fun v hv => hst v (by simp [hv])) hc hs) (fun q => kf q p l e s m args below meth c D dA A n0 h0 h H ls locs cells slots C hat hS hl (fun v hv => hst v (by simp [hv])) hc hs)
theorem z_if_ne {x : Int32} {off : Int} {tgt : Nat} (hd : decode M.2.1 pc = .ok (.ifCond .ne off, 3)) (ht : (pc : Int) + off = (tgt : Int)) (kt : ¬ x = 0 → z_V M d mc ms rc rs r X1 tgt lv st X) (kf : x = 0 → z_V M d mc ms rc rs r X1 (pc + 3) lv st X) : z_V M d mc ms rc rs r X1 pc lv (.int x :: st) X := by
  intro p l e s m args below meth c D dA A n0 h0 h H ls locs cells slots C hat hS hl hst hc hs
  exact lv_if_ne C.1 C.2.1 hd ht (fun q => kt q p l e s m args below meth c D dA A n0 h0 h H ls locs cells slots C hat hS hl (fun v hv => hst v (by simp [hv])) hc hs) (fun q => kf q p l e s m args below meth c D dA A n0 h0 h H ls locs cells slots C hat hS hl (fun v hv => hst v (by simp [hv])) hc hs)
theorem z_icmp_ne {x y : Int32} {off : Int} {tgt : Nat} (hd : decode M.2.1 pc = .ok (.if_icmp .ne off, 3)) (ht : (pc : Int) + off = (tgt : Int)) (kt : ¬ x = y → z_V M d mc ms rc rs r X1 tgt lv st X) (kf : x = y → z_V M d mc ms rc rs r X1 (pc + 3) lv st X) : z_V M d mc ms rc rs r X1 pc lv (.int y :: .int x :: st) X := by
  intro p l e s m args below meth c D dA A n0 h0 h H ls locs cells slots C hat hS hl hst hc hs
  exact lv_icmp_ne C.1 C.2.1 hd ht (fun q => kt q p l e s m args below meth c D dA A n0 h0 h H ls locs cells slots C hat hS hl (fun v hv => hst v (by simp [hv])) hc hs) (fun q => kf q p l e s m args below meth c D dA A n0 h0 h H ls locs cells slots C hat hS hl (fun v hv => hst v (by simp [hv])) hc hs)
theorem z_if_lt {x : Int32} {off : Int} {tgt : Nat} (hd : decode M.2.1 pc = .ok (.ifCond .lt off, 3)) (ht : (pc : Int) + off = (tgt : Int)) (kt : x < 0 → z_V M d mc ms rc rs r X1 tgt lv st X) (kf : ¬ x < 0 → z_V M d mc ms rc rs r X1 (pc + 3) lv st X) : z_V M d mc ms rc rs r X1 pc lv (.int x :: st) X := by
  intro p l e s m args below meth c D dA A n0 h0 h H ls locs cells slots C hat hS hl hst hc hs
  exact lv_if_lt C.1 C.2.1 hd ht (fun q => kt q p l e s m args below meth c D dA A n0 h0 h H ls locs cells slots C hat hS hl (fun v hv => hst v (by simp [hv])) hc hs) (fun q => kf q p l e s m args below meth c D dA A n0 h0 h H ls locs cells slots C hat hS hl (fun v hv => hst v (by simp [hv])) hc hs)
theorem z_icmp_lt {x y : Int32} {off : Int} {tgt : Nat} (hd : decode M.2.1 pc = .ok (.if_icmp .lt off, 3)) (ht : (pc : Int) + off = (tgt : Int)) (kt : x < y → z_V M d mc ms rc rs r X1 tgt lv st X) (kf : ¬ x < y → z_V M d mc ms rc rs r X1 (pc + 3) lv st X) : z_V M d mc ms rc rs r X1 pc lv (.int y :: .int x :: st) X := by
  intro p l e s m args below meth c D dA A n0 h0 h H ls locs cells slots C hat hS hl hst hc hs
  exact lv_icmp_lt C.1 C.2.1 hd ht (fun q => kt q p l e s m args below meth c D dA A n0 h0 h H ls locs cells slots C hat hS hl (fun v hv => hst v (by simp [hv])) hc hs) (fun q => kf q p l e s m args below meth c D dA A n0 h0 h H ls locs cells slots C hat hS hl (fun v hv => hst v (by simp [hv])) hc hs)
theorem z_if_ge {x : Int32} {off : Int} {tgt : Nat} (hd : decode M.2.1 pc = .ok (.ifCond .ge off, 3)) (ht : (pc : Int) + off = (tgt : Int)) (kt : 0 ≤ x → z_V M d mc ms rc rs r X1 tgt lv st X) (kf : ¬ 0 ≤ x → z_V M d mc ms rc rs r X1 (pc + 3) lv st X) : z_V M d mc ms rc rs r X1 pc lv (.int x :: st) X := by
  intro p l e s m args below meth c D dA A n0 h0 h H ls locs cells slots C hat hS hl hst hc hs
  exact lv_if_ge C.1 C.2.1 hd ht (fun q => kt q p l e s m args below meth c D dA A n0 h0 h H ls locs cells slots C hat hS hl (fun v hv => hst v (by simp [hv])) hc hs) (fun q => kf q p l e s m args below meth c D dA A n0 h0 h H ls locs cells slots C hat hS hl (fun v hv => hst v (by simp [hv])) hc hs)
theorem z_icmp_ge {x y : Int32} {off : Int} {tgt : Nat} (hd : decode M.2.1 pc = .ok (.if_icmp .ge off, 3)) (ht : (pc : Int) + off = (tgt : Int)) (kt : y ≤ x → z_V M d mc ms rc rs r X1 tgt lv st X) (kf : ¬ y ≤ x → z_V M d mc ms rc rs r X1 (pc + 3) lv st X) : z_V M d mc ms rc rs r X1 pc lv (.int y :: .int x :: st) X := by
  intro p l e s m args below meth c D dA A n0 h0 h H ls locs cells slots C hat hS hl hst hc hs
  exact lv_icmp_ge C.1 C.2.1 hd ht (fun q => kt q p l e s m args below meth c D dA A n0 h0 h H ls locs cells slots C hat hS hl (fun v hv => hst v (by simp [hv])) hc hs) (fun q => kf q p l e s m args below meth c D dA A n0 h0 h H ls locs cells slots C hat hS hl (fun v hv => hst v (by simp [hv])) hc hs)
theorem z_if_gt {x : Int32} {off : Int} {tgt : Nat} (hd : decode M.2.1 pc = .ok (.ifCond .gt off, 3)) (ht : (pc : Int) + off = (tgt : Int)) (kt : 0 < x → z_V M d mc ms rc rs r X1 tgt lv st X) (kf : ¬ 0 < x → z_V M d mc ms rc rs r X1 (pc + 3) lv st X) : z_V M d mc ms rc rs r X1 pc lv (.int x :: st) X := by
  intro p l e s m args below meth c D dA A n0 h0 h H ls locs cells slots C hat hS hl hst hc hs
  exact lv_if_gt C.1 C.2.1 hd ht (fun q => kt q p l e s m args below meth c D dA A n0 h0 h H ls locs cells slots C hat hS hl (fun v hv => hst v (by simp [hv])) hc hs) (fun q => kf q p l e s m args below meth c D dA A n0 h0 h H ls locs cells slots C hat hS hl (fun v hv => hst v (by simp [hv])) hc hs)
theorem z_icmp_gt {x y : Int32} {off : Int} {tgt : Nat} (hd : decode M.2.1 pc = .ok (.if_icmp .gt off, 3)) (ht : (pc : Int) + off = (tgt : Int)) (kt : y < x → z_V M d mc ms rc rs r X1 tgt lv st X) (kf : ¬ y < x → z_V M d mc ms rc rs r X1 (pc + 3) lv st X) : z_V M d mc ms rc rs r X1 pc lv (.int y :: .int x :: st) X := by
  intro p l e s m args below meth c D dA A n0 h0 h H ls locs cells slots C hat hS hl hst hc hs
  exact lv_icmp_gt C.1 C.2.1 hd ht (fun q => kt q p l e s m args below meth c D dA A n0 h0 h H ls locs cells slots C hat hS hl (fun v hv => hst v (by simp [hv])) hc hs) (fun q => kf q p l e s m args below meth c D dA A n0 h0 h H ls locs cells slots C hat hS hl (fun v hv => hst v (by simp [hv])) hc hs)
theorem z_if_le {x : Int32} {off : Int} {tgt : Nat} (hd : decode M.2.1 pc = .ok (.ifCond .le off, 3)) (ht : (pc : Int) + off = (tgt : Int)) (kt : x ≤ 0 → z_V M d mc ms rc rs r X1 tgt lv st X) (kf : ¬ x ≤ 0 → z_V M d mc ms rc rs r X1 (pc + 3) lv st X) : z_V M d mc ms rc rs r X1 pc lv (.int x :: st) X := by
  intro p l e s m args below meth c D dA A n0 h0 h H ls locs cells slots C hat hS hl hst hc hs
  exact lv_if_le C.1 C.2.1 hd ht (fun q => kt q p l e s m args below meth c D dA A n0 h0 h H ls locs cells slots C hat hS hl (fun v hv => hst v (by simp [hv])) hc hs) (fun q => kf q p l e s m args below meth c D dA A n0 h0 h H ls locs cells slots C hat hS hl (fun v hv => hst v (by simp [hv])) hc hs)
theorem z_icmp_le {x y : Int32} {off : Int} {tgt : Nat} (hd : decode M.2.1 pc = .ok (.if_icmp .le off, 3)) (ht : (pc : Int) + off = (tgt : Int)) (kt : x ≤ y → z_V M d mc ms rc rs r X1 tgt lv st X) (kf : ¬ x ≤ y → z_V M d mc ms rc rs r X1 (pc + 3) lv st X) : z_V M d mc ms rc rs r X1 pc lv (.int y :: .int x :: st) X := by
  intro p l e s m args below meth c D dA A n0 h0 h H ls locs cells slots C hat hS hl hst hc hs
  exact lv_icmp_le C.1 C.2.1 hd ht (fun q => kt q p l e s m args below meth c D dA A n0 h0 h H ls locs cells slots C hat hS hl (fun v hv => hst v (by simp [hv])) hc hs) (fun q => kf q p l e s m args below meth c D dA A n0 h0 h H ls locs cells slots C hat hS hl (fun v hv => hst v (by simp [hv])) hc hs)
theorem z_iadd {x y z : Int32} (hd : decode M.2.1 pc = .ok (.iadd, 1)) (hz : x + y = z) (k : z_V M d mc ms rc rs r X1 (pc + 1) lv (.int z :: st) X) : z_V M d mc ms rc rs r X1 pc lv (.int y :: .int x :: st) X := by
  subst hz
  refine z_pure (fun hst v hv => ?_) (fun h hx hb kk => lv_iadd hx hb hd kk) k
  rcases List.mem_cons.mp hv with rfl | hv
  · exact z_sv.int
  · exact hst v (by simp [hv])
theorem z_isub {x y z : Int32} (hd : decode M.2.1 pc = .ok (.isub, 1)) (hz : x - y = z) (k : z_V M d mc ms rc rs r X1 (pc + 1) lv (.int z :: st) X) : z_V M d mc ms rc rs r X1 pc lv (.int y :: .int x :: st) X := by
  subst hz
  refine z_pure (fun hst v hv => ?_) (fun h hx hb kk => lv_isub hx hb hd kk) k
  rcases List.mem_cons.mp hv with rfl | hv
  · exact z_sv.int
  · exact hst v (by simp [hv])
theorem z_imul {x y z : Int32} (hd : decode M.2.1 pc = .ok (.imul, 1)) (hz : x * y = z) (k : z_V M d mc ms rc rs r X1 (pc + 1) lv (.int z :: st) X) : z_V M d mc ms rc rs r X1 pc lv (.int y :: .int x :: st) X := by
  subst hz
  refine z_pure (fun hst v hv => ?_) (fun h hx hb kk => lv_imul hx hb hd kk) k
  rcases List.mem_cons.mp hv with rfl | hv
  · exact z_sv.int
  · exact hst v (by simp [hv])
theorem z_iand {x y z : Int32} (hd : decode M.2.1 pc = .ok (.iand, 1)) (hz : x &&& y = z) (k : z_V M d mc ms rc rs r X1 (pc + 1) lv (.int z :: st) X) : z_V M d mc ms rc rs r X1 pc lv (.int y :: .int x :: st) X := by
  subst hz
  refine z_pure (fun hst v hv => ?_) (fun h hx hb kk => lv_iand hx hb hd kk) k
  rcases List.mem_cons.mp hv with rfl | hv
  · exact z_sv.int
  · exact hst v (by simp [hv])
theorem z_ior {x y z : Int32} (hd : decode M.2.1 pc = .ok (.ior, 1)) (hz : x ||| y = z) (k : z_V M d mc ms rc rs r X1 (pc + 1) lv (.int z :: st) X) : z_V M d mc ms rc rs r X1 pc lv (.int y :: .int x :: st) X := by
  subst hz
  refine z_pure (fun hst v hv => ?_) (fun h hx hb kk => lv_ior hx hb hd kk) k
  rcases List.mem_cons.mp hv with rfl | hv
  · exact z_sv.int
  · exact hst v (by simp [hv])
theorem z_ixor {x y z : Int32} (hd : decode M.2.1 pc = .ok (.ixor, 1)) (hz : x ^^^ y = z) (k : z_V M d mc ms rc rs r X1 (pc + 1) lv (.int z :: st) X) : z_V M d mc ms rc rs r X1 pc lv (.int y :: .int x :: st) X := by
  subst hz
  refine z_pure (fun hst v hv => ?_) (fun h hx hb kk => lv_ixor hx hb hd kk) k
  rcases List.mem_cons.mp hv with rfl | hv
  · exact z_sv.int
  · exact hst v (by simp [hv])
theorem z_iconst {n : Int} {v : Int32} (hd : decode M.2.1 pc = .ok (.iconst n, 1)) (hv : Int32.ofInt n = v) (k : z_V M d mc ms rc rs r X1 (pc + 1) lv (.int v :: st) X) : z_V M d mc ms rc rs r X1 pc lv st X := by
  refine z_pure (fun hst v hv => ?_) (fun h hx hb kk => lv_iconst hx hb hd hv kk) k
  rcases List.mem_cons.mp hv with rfl | hv
  · exact z_sv.int
  · exact hst v hv
theorem z_bipush {n : Int} {v : Int32} (hd : decode M.2.1 pc = .ok (.bipush n, 2)) (hv : (Int8.ofInt n).toInt32 = v) (k : z_V M d mc ms rc rs r X1 (pc + 2) lv (.int v :: st) X) : z_V M d mc ms rc rs r X1 pc lv st X := by
  refine z_pure (fun hst v hv => ?_) (fun h hx hb kk => lv_bipush hx hb hd hv kk) k
  rcases List.mem_cons.mp hv with rfl | hv
  · exact z_sv.int
  · exact hst v hv
theorem z_sipush {n : Int} {v : Int32} (hd : decode M.2.1 pc = .ok (.sipush n, 3)) (hv : (Int16.ofInt n).toInt32 = v) (k : z_V M d mc ms rc rs r X1 (pc + 3) lv (.int v :: st) X) : z_V M d mc ms rc rs r X1 pc lv st X := by
  refine z_pure (fun hst v hv => ?_) (fun h hx hb kk => lv_sipush hx hb hd hv kk) k
  rcases List.mem_cons.mp hv with rfl | hv
  · exact z_sv.int
  · exact hst v hv
end ZB
/-! the locals -/
def z_L (h : Nat → Nat) (lv : List (Option Value)) : List (Nat × Value) := (List.range lv.length).filterMap fun i => match lv[i]? with
  | some (some v) => some (i, z_v h v)
  | _ => none
theorem z_L.mem {h : Nat → Nat} {lv : List (Option Value)} {q : Nat × Value} : q ∈ z_L h lv ↔ ∃ v, lv[q.1]? = some (some v) ∧ q.2 = z_v h v := by
  obtain ⟨i, w⟩ := q
  simp only [z_L, List.mem_filterMap, List.mem_range]
  constructor
  · rintro ⟨j, hj, hq⟩
    split at hq
    next v hv => cases hq; exact ⟨v, hv, rfl⟩
    next => cases hq
  · rintro ⟨v, hv, rfl⟩
    refine ⟨i, (List.getElem?_eq_some_iff.mp hv).1, ?_⟩
    rw [hv]
theorem z_lv.has {nL n : Nat} {h : Nat → Nat} {ls : Array Slot} {lv : List (Option Value)} (H : z_lv nL h n ls lv) : lv_has ls nL (z_L h lv) := by
  refine ⟨H.1, H.2.1, fun q hq => ?_⟩
  obtain ⟨v, hv, e⟩ := z_L.mem.mp hq
  rw [e]
  exact (H.2.2 _ _ hv).1
theorem z_lv.put {nL n i : Nat} {h : Nat → Nat} {ls ls' : Array Slot} {lv : List (Option Value)} {v : Value} (H : z_lv nL h n ls lv) (hv : z_sv n v) (hc : v.category = 1)
    (h' : lv_has ls' nL ((i, z_v h v) :: (z_L h lv).filter (fun q => !(q.1 == i) && !(q.1 + 1 == i && q.2.category == 2)))) : z_lv nL h n ls' (lv.set i (some v)) := by
  refine ⟨h'.1, h'.2.1, fun j w hj => ?_⟩
  by_cases hij : i = j
  · subst hij
    rw [List.getElem?_set] at hj
    simp only [↓reduceIte] at hj
    split at hj
    next hl =>
      cases hj
      exact ⟨h'.2.2 _ List.mem_cons_self, hv, hc⟩
    next => cases hj
  · rw [List.getElem?_set, if_neg hij] at hj
    obtain ⟨a1, a2, a3⟩ := H.2.2 j w hj
    refine ⟨h'.2.2 (j, z_v h w) (List.mem_cons_of_mem _ (List.mem_filter.mpr ⟨z_L.mem.mpr ⟨w, hj, rfl⟩, ?_⟩)), a2, a3⟩
    have : (z_v h w).category = 1 := by rw [z_v_cat]; exact a3
    simp [this]
    exact fun q => hij q.symm
theorem z_lv.mv {nL n n' : Nat} {h h1 : Nat → Nat} {ls : Array Slot} {lv : List (Option Value)} (H : z_lv nL h n ls lv) (he : ∀ i, i < n → h1 i = h i) (hn : n ≤ n') : z_lv nL h1 n' ls lv := by
  refine ⟨H.1, H.2.1, fun i v hv => ?_⟩
  obtain ⟨a1, a2, a3⟩ := H.2.2 i v hv
  exact ⟨by rw [z_v_eq he a2]; exact a1, a2.up hn, a3⟩
section ZL
variable {M : z_M} {d mc ms rc rs : Nat} {r : Option Value} {X1 X : z_X} {pc : Nat} {lv : List (Option Value)} {st : List Value}
theorem z_iload_n {k : Fin 4} {i : Nat} {x : Int32} (hd : decode M.2.1 pc = .ok (.iload_n k, 1)) (hi : (k : Nat) = i) (hv : lv[i]? = some (some (.int x))) (kk : z_V M d mc ms rc rs r X1 (pc + 1) lv (.int x :: st) X) : z_V M d mc ms rc rs r X1 pc lv st X := by
  intro p l e s m args below meth c D dA A n0 h0 h H ls locs cells slots C hat hS hl hst hc hs
  exact lv_iload_n C.1 C.2.1 hd hi (hl.2.2 i _ hv).1 (kk p l e s m args below meth c D dA A n0 h0 h H ls locs cells slots C hat hS hl (fun v hv => (List.mem_cons.mp hv).elim (fun q => q ▸ z_sv.int) (hst v)) hc hs)
theorem z_iload {i : Nat} {x : Int32} (hd : decode M.2.1 pc = .ok (.iload i, 2)) (hv : lv[i]? = some (some (.int x))) (kk : z_V M d mc ms rc rs r X1 (pc + 2) lv (.int x :: st) X) : z_V M d mc ms rc rs r X1 pc lv st X := by
  intro p l e s m args below meth c D dA A n0 h0 h H ls locs cells slots C hat hS hl hst hc hs
  exact lv_iload C.1 C.2.1 hd (hl.2.2 i _ hv).1 (kk p l e s m args below meth c D dA A n0 h0 h H ls locs cells slots C hat hS hl (fun v hv => (List.mem_cons.mp hv).elim (fun q => q ▸ z_sv.int) (hst v)) hc hs)
theorem z_aload_n {k : Fin 4} {i : Nat} {x : Nat} (hd : decode M.2.1 pc = .ok (.aload_n k, 1)) (hi : (k : Nat) = i) (hv : lv[i]? = some (some (.ref x))) (kk : z_V M d mc ms rc rs r X1 (pc + 1) lv (.ref x :: st) X) : z_V M d mc ms rc rs r X1 pc lv st X := by
  intro p l e s m args below meth c D dA A n0 h0 h H ls locs cells slots C hat hS hl hst hc hs
  exact lv_aload_n C.1 C.2.1 hd hi (hl.2.2 i _ hv).1 (kk p l e s m args below meth c D dA A n0 h0 h H ls locs cells slots C hat hS hl (fun v hv' => (List.mem_cons.mp hv').elim (fun q => q ▸ (hl.2.2 i _ hv).2.1) (hst v)) hc hs)
theorem z_aload {i : Nat} {x : Nat} (hd : decode M.2.1 pc = .ok (.aload i, 2)) (hv : lv[i]? = some (some (.ref x))) (kk : z_V M d mc ms rc rs r X1 (pc + 2) lv (.ref x :: st) X) : z_V M d mc ms rc rs r X1 pc lv st X := by
  intro p l e s m args below meth c D dA A n0 h0 h H ls locs cells slots C hat hS hl hst hc hs
  exact lv_aload C.1 C.2.1 hd (hl.2.2 i _ hv).1 (kk p l e s m args below meth c D dA A n0 h0 h H ls locs cells slots C hat hS hl (fun v hv' => (List.mem_cons.mp hv').elim (fun q => q ▸ (hl.2.2 i _ hv).2.1) (hst v)) hc hs)
theorem z_istore_n {k : Fin 4} {i : Nat} {x : Int32} (hd : decode M.2.1 pc = .ok (.istore_n k, 1)) (hi : (k : Nat) = i) (hn : i < M.2.2.1) (kk : z_V M d mc ms rc rs r X1 (pc + 1) (lv.set i (some (.int x))) st X) : z_V M d mc ms rc rs r X1 pc lv (.int x :: st) X := by
  intro p l e s m args below meth c D dA A n0 h0 h H ls locs cells slots C hat hS hl hst hc hs
  exact lv_istore_n C.1 C.2.1 hd hi hl.has hn rfl (fun ls' h' => kk p l e s m args below meth c D dA A n0 h0 h H ls' locs cells slots C hat hS (hl.put z_sv.int rfl h') (fun v hv => hst v (List.mem_cons_of_mem _ hv)) hc hs)
theorem z_istore {i : Nat} {x : Int32} (hd : decode M.2.1 pc = .ok (.istore i, 2)) (hn : i < M.2.2.1) (kk : z_V M d mc ms rc rs r X1 (pc + 2) (lv.set i (some (.int x))) st X) : z_V M d mc ms rc rs r X1 pc lv (.int x :: st) X := by
  intro p l e s m args below meth c D dA A n0 h0 h H ls locs cells slots C hat hS hl hst hc hs
  exact lv_istore C.1 C.2.1 hd hl.has hn rfl (fun ls' h' => kk p l e s m args below meth c D dA A n0 h0 h H ls' locs cells slots C hat hS (hl.put z_sv.int rfl h') (fun v hv => hst v (List.mem_cons_of_mem _ hv)) hc hs)
theorem z_astore_n {k : Fin 4} {i x : Nat} (hd : decode M.2.1 pc = .ok (.astore_n k, 1)) (hi : (k : Nat) = i) (hn : i < M.2.2.1) (kk : z_V M d mc ms rc rs r X1 (pc + 1) (lv.set i (some (.ref x))) st X) : z_V M d mc ms rc rs r X1 pc lv (.ref x :: st) X := by
  intro p l e s m args below meth c D dA A n0 h0 h H ls locs cells slots C hat hS hl hst hc hs
  exact lv_astore_n C.1 C.2.1 hd hi hl.has hn rfl (fun ls' h' => kk p l e s m args below meth c D dA A n0 h0 h H ls' locs cells slots C hat hS (hl.put (v := .ref x) (hst _ List.mem_cons_self) rfl h') (fun v hv => hst v (List.mem_cons_of_mem _ hv)) hc hs)
theorem z_astore {i x : Nat} (hd : decode M.2.1 pc = .ok (.astore i, 2)) (hn : i < M.2.2.1) (kk : z_V M d mc ms rc rs r X1 (pc + 2) (lv.set i (some (.ref x))) st X) : z_V M d mc ms rc rs r X1 pc lv (.ref x :: st) X := by
  intro p l e s m args below meth c D dA A n0 h0 h H ls locs cells slots C hat hS hl hst hc hs
  exact lv_astore C.1 C.2.1 hd hl.has hn rfl (fun ls' h' => kk p l e s m args below meth c D dA A n0 h0 h H ls' locs cells slots C hat hS (hl.put (v := .ref x) (hst _ List.mem_cons_self) rfl h') (fun v hv => hst v (List.mem_cons_of_mem _ hv)) hc hs)
theorem z_iinc {i : Nat} {n : Int} {x z : Int32} (hd : decode M.2.1 pc = .ok (.iinc i n, 3)) (hv : lv[i]? = some (some (.int x))) (hz : x + Int32.ofInt n = z) (hn : i < M.2.2.1) (kk : z_V M d mc ms rc rs r X1 (pc + 3) (lv.set i (some (.int z))) st X) : z_V M d mc ms rc rs r X1 pc lv st X := by
  intro p l e s m args below meth c D dA A n0 h0 h H ls locs cells slots C hat hS hl hst hc hs
  obtain ⟨k, hk⟩ := List.getElem?_of_mem (z_L.mem.mpr ⟨.int x, hv, rfl⟩ : (i, z_v h (.int x)) ∈ z_L h lv)
  exact lv_iinc C.1 C.2.1 hd hl.has hk hz hn rfl (fun ls' h' => kk p l e s m args below meth c D dA A n0 h0 h H ls' locs cells slots C hat hS (hl.put (v := .int z) z_sv.int rfl h') hst hc hs)
theorem z_dup {v : Value} (hd : decode M.2.1 pc = .ok (.dup, 1)) (hc : v.category = 1) (kk : z_V M d mc ms rc rs r X1 (pc + 1) lv (v :: v :: st) X) : z_V M d mc ms rc rs r X1 pc lv (v :: st) X := by
  refine z_pure (fun hst w hw => ?_) (fun h hx hb kk => lv_dup hx hb hd ((z_v_cat h v).trans hc) kk) kk
  rcases List.mem_cons.mp hw with rfl | hw
  · exact hst _ List.mem_cons_self
  · exact hst w hw
theorem z_dup2 {v w : Value} (hd : decode M.2.1 pc = .ok (.dup2, 1)) (hc : v.category = 1) (hc2 : w.category = 1) (kk : z_V M d mc ms rc rs r X1 (pc + 1) lv (v :: w :: v :: w :: st) X) : z_V M d mc ms rc rs r X1 pc lv (v :: w :: st) X := by
  refine z_pure (fun hst u hu => ?_) (fun h hx hb kk => lv_dup2_11 hx hb hd ((z_v_cat h v).trans hc) ((z_v_cat h w).trans hc2) kk) kk
  rcases List.mem_cons.mp hu with rfl | hu
  · exact hst _ List.mem_cons_self
  · rcases List.mem_cons.mp hu with rfl | hu
    · exact hst _ (List.mem_cons_of_mem _ List.mem_cons_self)
    · exact hst u hu
theorem z_pop {v : Value} (hd : decode M.2.1 pc = .ok (.pop, 1)) (hc : v.category = 1) (kk : z_V M d mc ms rc rs r X1 (pc + 1) lv st X) : z_V M d mc ms rc rs r X1 pc lv (v :: st) X :=
  z_pure (fun hst w hw => hst w (List.mem_cons_of_mem _ hw)) (fun h hx hb kk => lv_pop hx hb hd ((z_v_cat h v).trans hc) kk) kk
theorem z_goto {off : Int} {tgt : Nat} (hd : decode M.2.1 pc = .ok (.goto off, 3)) (ht : (pc : Int) + off = (tgt : Int)) (kk : z_V M d mc ms rc rs r X1 tgt lv st X) : z_V M d mc ms rc rs r X1 pc lv st X :=
  z_pure (fun hst => hst) (fun h hx hb kk => lv_goto hx hb hd ht kk) kk
theorem z_tableOut {dflt lo hi : Int} {offs : Array Int} {len : Nat} {x : Int32} {tgt : Nat} (hd : decode M.2.1 pc = .ok (.tableswitch dflt lo hi offs, len)) (h : x.toInt < lo ∨ hi < x.toInt) (ht : (pc : Int) + dflt = (tgt : Int)) (kk : z_V M d mc ms rc rs r X1 tgt lv st X) : z_V M d mc ms rc rs r X1 pc lv (.int x :: st) X :=
  z_pure (fun hst w hw => hst w (List.mem_cons_of_mem _ hw)) (fun _ hx hb kk => lv_tableOut hx hb hd h ht kk) kk
theorem z_tableIn {dflt lo hi : Int} {offs : Array Int} {len : Nat} {x : Int32} {off : Int} {tgt : Nat} (hd : decode M.2.1 pc = .ok (.tableswitch dflt lo hi offs, len)) (h1 : ¬ x.toInt < lo) (h2 : ¬ hi < x.toInt) (ho : offs[(x.toInt - lo).toNat]? = some off) (ht : (pc : Int) + off = (tgt : Int)) (kk : z_V M d mc ms rc rs r X1 tgt lv st X) : z_V M d mc ms rc rs r X1 pc lv (.int x :: st) X :=
  z_pure (fun hst w hw => hst w (List.mem_cons_of_mem _ hw)) (fun _ hx hb kk => lv_tableIn hx hb hd h1 h2 ho ht kk) kk
theorem z_irem {x y z : Int32} (hd : decode M.2.1 pc = .ok (.irem, 1)) (hne : ¬ y = 0) (hz : x - x / y * y = z) (k : z_V M d mc ms rc rs r X1 (pc + 1) lv (.int z :: st) X) : z_V M d mc ms rc rs r X1 pc lv (.int y :: .int x :: st) X := by
  subst hz
  refine z_pure (fun hst v hv => ?_) (fun h hx hb kk => lv_irem hx hb hd hne kk) k
  rcases List.mem_cons.mp hv with rfl | hv
  · exact z_sv.int
  · exact hst v (by simp [hv])
end ZL
/-! the picture's cells -/
def z_up {α : Type} (f : Nat → Nat → α) (i j : Nat) (x : α) : Nat → Nat → α := fun a b => if a = i ∧ b = j then x else f a b
theorem z_up_row {α : Type} (f : Nat → Nat → α) (i j : Nat) (x : α) : z_up f i j x i = va_up (f i) j x := by
  funext b; simp [z_up, va_up]
theorem z_up_ne {α : Type} (f : Nat → Nat → α) {i a : Nat} (j : Nat) (x : α) (h : a ≠ i) : z_up f i j x a = f a := by
  funext b; simp [z_up, h]
theorem z_upd_eq (f : Nat → Int32) (k : Nat) (x : Int32) : upd f k x = va_up f k x := rfl
theorem z_ws_get {dA : Nat → ClassId} {h : Nat → Nat} {X : z_X} {i : Nat} (hi : i < X.1) : (z_ws dA h X)[i]? = some (h i, z_ent dA h (z_k i) (X.2.1 i) (X.2.2.1 i) (X.2.2.2 i)) := z_rget _ hi
/-- a world in which one cell's entry is changed is the world of the changed picture -/
theorem z_ws_set {dA : Nat → ClassId} {h : Nat → Nat} {X X' : z_X} {i : Nat} {E : va_E} (hn : X'.1 = X.1) (hE : z_ent dA h (z_k i) (X'.2.1 i) (X'.2.2.1 i) (X'.2.2.2 i) = E) (ho : ∀ a, a ≠ i → X'.2.1 a = X.2.1 a ∧ X'.2.2.1 a = X.2.2.1 a ∧ X'.2.2.2 a = X.2.2.2 a) :
    (z_ws dA h X).set i (h i, E) = z_ws dA h X' := by
  unfold z_ws
  rw [z_rset, hn]
  apply List.map_congr_left
  intro j _
  by_cases hj : j = i
  · subst hj
    simp [hE]
  · obtain ⟨a1, a2, a3⟩ := ho j hj
    simp [hj, a1, a2, a3]
/-- field k of class ci -/
def z_flB (own : String) (idx ci k : Nat) : Bool := decide (ci < 12) && decide (k < z_nf ci) && decide (Cond.fieldLink own idx (z_T ci k).1 (z_T ci k).2.1 (z_T ci k).2.2.1 ∈ z_G)
def z_fl (own : String) (idx ci k : Nat) : Prop := ci < 12 ∧ k < z_nf ci ∧ Cond.fieldLink own idx (z_T ci k).1 (z_T ci k).2.1 (z_T ci k).2.2.1 ∈ z_G
theorem z_cl : ∀ c, c < 12 → vwCl[c]? = some (z_R c, z_T c, z_nf c) := by
  intro c hc
  match c, hc with
  | 0, _ => rfl
  | 1, _ => rfl
  | 2, _ => rfl
  | 3, _ => rfl
  | 4, _ => rfl
  | 5, _ => rfl
  | 6, _ => rfl
  | 7, _ => rfl
  | 8, _ => rfl
  | 9, _ => rfl
  | 10, _ => rfl
  | 11, _ => rfl
theorem z_tyok : ∀ c, c < 12 → ∀ k, k < z_nf c → parseFieldDescriptor (z_T c k).2.2.1 = some (z_ty c k) := by
  intro c hc
  match c, hc with
  | 0, _ => exact tyX0_ok
  | 1, _ => exact tyX1_ok
  | 2, _ => exact tyX2_ok
  | 3, _ => exact tyX3_ok
  | 4, _ => exact tyX4_ok
  | 5, _ => exact tyX5_ok
  | 6, _ => exact tyX6_ok
  | 7, _ => exact tyX7_ok
  | 8, _ => exact tyX8_ok
  | 9, _ => exact tyX9_ok
  | 10, _ => exact tyX10_ok
  | 11, _ => exact tyX11_ok
theorem z_nm : ∀ c, c < 12 → ∀ a, a < z_nf c → ∀ b, b < z_nf c → a ≠ b → (z_T c a).2.1 ≠ (z_T c b).2.1 := by
  intro c hc
  match c, hc with
  | 0, _ => exact nmX0
  | 1, _ => exact nmX1
  | 2, _ => exact nmX2
  | 3, _ => exact nmX3
  | 4, _ => exact nmX4
  | 5, _ => exact nmX5
  | 6, _ => exact nmX6
  | 7, _ => exact nmX7
  | 8, _ => exact nmX8
  | 9, _ => exact nmX9
  | 10, _ => exact nmX10
  | 11, _ => exact nmX11
set_option maxRecDepth 20000 in
theorem z_uw : ∀ c, c < 12 → ∀ w ∈ u_ws (z_R c) (z_T c) (z_nf c), w ∈ z_G := by
  intro c hc
  match c, hc with
  | 0, _ => exact (by decide +kernel : ∀ w ∈ u_ws RX0 TX0 6, w ∈ z_G)
  | 1, _ => exact (by decide +kernel : ∀ w ∈ u_ws RX1 TX1 4, w ∈ z_G)
  | 2, _ => exact (by decide +kernel : ∀ w ∈ u_ws RX2 TX2 3, w ∈ z_G)
  | 3, _ => exact (by decide +kernel : ∀ w ∈ u_ws RX3 TX3 6, w ∈ z_G)
  | 4, _ => exact (by decide +kernel : ∀ w ∈ u_ws RX4 TX4 3, w ∈ z_G)
  | 5, _ => exact (by decide +kernel : ∀ w ∈ u_ws RX5 TX5 4, w ∈ z_G)
  | 6, _ => exact (by decide +kernel : ∀ w ∈ u_ws RX6 TX6 4, w ∈ z_G)
  | 7, _ => exact (by decide +kernel : ∀ w ∈ u_ws RX7 TX7 10, w ∈ z_G)
  | 8, _ => exact (by decide +kernel : ∀ w ∈ u_ws RX8 TX8 6, w ∈ z_G)
  | 9, _ => exact (by decide +kernel : ∀ w ∈ u_ws RX9 TX9 5, w ∈ z_G)
  | 10, _ => exact (by decide +kernel : ∀ w ∈ u_ws RX10 TX10 13, w ∈ z_G)
  | 11, _ => exact (by decide +kernel : ∀ w ∈ u_ws RX11 TX11 47, w ∈ z_G)

