/-! PART 99: the law's body from its entry; the claim -/
def R_law : String := "TraceTierLaw"
def lw_P (b : Addr) (xs : List Int32) (args : Array Value) (s : State) : Prop := args = #[.ref b] ∧ s.IntsAt b xs ∧ xs.length ≤ 2048 ∧ (Jvm.Cond.and given_1 narrow_1).before args s = true
def lw_Q (_ : Array Value) (s : State) (o : Outcome) (t : State) : Prop := o = .returned (some (.int 1)) ∧ Framed s o t [] 601024 7293033
def lw_Z (below : List Frame) (a : Array Value) (s : State) : State → Prop := fun t => ∃ o, t.status = .running ∧ Ended t below o ∧ lw_Q a s o t
/-- the law's own end, with 1 on the stack, in any room -/
theorem lw_retR {p : Program} {l : Launch} {e : Env} {R : Room} {s : State} {m : MethodId} {args : Array Value} {below : List Frame} {meth : Method} {c : Code} (hx : p.tables.exec = Jvm.exec) (hb : c.code = code) (hr : meth.sig.returnType = ret) (hlocks : meth.locks = false) {pc : Nat} {H : Heap} {ls : Array Slot} (hdg : decode code pc = .ok (.ireturn, 1)) : W p l e R s m args below meth c H [] 601024 7293033 (lw_Z below args s) (F0 m pc ls [.int 1]) := by
  intro T hT X
  obtain ⟨fs, hret, hrun, hended, hW, hframe⟩ := X.leave (v := some (.int 1)) (hlocks := hlocks) (fun h => by rw [hr] at h; cases h)
  have hmeth' : T.vm.method? m = some meth := X.method'
  refine ⟨T.setFrames fs, ?_, .returned (some (.int 1)), hrun, hended, rfl, ⟨_, rfl⟩, hW, hframe⟩
  jvm_step X.here [X.here.top, hx, hb, hdg, hmeth', hr, ret, narrow_b1]
  (try refine ⟨rfl, ?_⟩); (try refine ⟨rfl, ?_⟩)
  first | (intro acts; rw [hret _ acts rfl rfl rfl]) | rw [hret _ _ rfl rfl rfl]
  exact Steps.refl _
/-- what the law's walk ends in -/
def lw_X : z_QT := fun below args s _ _ A _ _ => fun t => (∀ q, A q → s.heap.size ≤ q) → lw_Z below args s t
def lw_A (s : State) : Nat → Prop := fun q => s.heap.size ≤ q
def lw_At (p : Program) (s : State) (m : MethodId) (meth : Method) (c : Code) (b L : Nat) (xs : Nat → Int32) : Prop :=
  p.tables.exec = Jvm.exec ∧ c.code = code ∧ meth.sig.returnType = ret ∧ c.maxLocals = 7 ∧ s.vm.findClass R_law = some m.cls ∧ (∀ w ∈ lw_tbl, w.before #[Value.ref b] s = true) ∧ va_X b L xs s s.heap ∧ b < s.heap.size ∧ meth.locks = false ∧ (Jvm.Cond.and given_1 narrow_1).before #[Value.ref b] s = true
section
variable {s : State} {b : Nat}
theorem st_TAKES (hts : ∀ w ∈ lw_tbl, w.before #[Value.ref b] s = true) (hgv : (Jvm.Cond.and given_1 narrow_1).before #[Value.ref b] s = true) : ∃ t : Nat, va_Z "TraceTier" "TAKES" "[I" (.ref t) (lw_A s) s s.heap ∧ va_T .int t 16 (fun j => .int (z_takes j)) (lw_A s) s s.heap := by
  have hs := flat_of_before _ hgv
  have hA : ∀ a : Nat, a < s.heap.size → ¬ lw_A s a := fun a ha => Nat.not_le.mpr ha
  have hel : ∀ j : Nat, j < 16 → (Term.elem (.static "TraceTier" "TAKES" "[I") (.int (Int32.ofNat j))).eval #[Value.ref b] s none [] s = some (.int (z_takes j)) := by
    intro j hj
    match j, hj with
    | 0, _ => exact va_eqt (z := 0) (hs (Cond.eq (.elem (.static "TraceTier" "TAKES" "[I") (.int 0)) (.int 0)) (by decide +kernel))
    | 1, _ => exact va_eqt (z := 0) (hs (Cond.eq (.elem (.static "TraceTier" "TAKES" "[I") (.int 1)) (.int 0)) (by decide +kernel))
    | 2, _ => exact va_eqt (z := 1) (hs (Cond.eq (.elem (.static "TraceTier" "TAKES" "[I") (.int 2)) (.int 1)) (by decide +kernel))
    | 3, _ => exact va_eqt (z := 2) (hs (Cond.eq (.elem (.static "TraceTier" "TAKES" "[I") (.int 3)) (.int 2)) (by decide +kernel))
    | 4, _ => exact va_eqt (z := 2) (hs (Cond.eq (.elem (.static "TraceTier" "TAKES" "[I") (.int 4)) (.int 2)) (by decide +kernel))
    | 5, _ => exact va_eqt (z := 2) (hs (Cond.eq (.elem (.static "TraceTier" "TAKES" "[I") (.int 5)) (.int 2)) (by decide +kernel))
    | 6, _ => exact va_eqt (z := 2) (hs (Cond.eq (.elem (.static "TraceTier" "TAKES" "[I") (.int 6)) (.int 2)) (by decide +kernel))
    | 7, _ => exact va_eqt (z := 2) (hs (Cond.eq (.elem (.static "TraceTier" "TAKES" "[I") (.int 7)) (.int 2)) (by decide +kernel))
    | 8, _ => exact va_eqt (z := 2) (hs (Cond.eq (.elem (.static "TraceTier" "TAKES" "[I") (.int 8)) (.int 2)) (by decide +kernel))
    | 9, _ => exact va_eqt (z := 1) (hs (Cond.eq (.elem (.static "TraceTier" "TAKES" "[I") (.int 9)) (.int 1)) (by decide +kernel))
    | 10, _ => exact va_eqt (z := 1) (hs (Cond.eq (.elem (.static "TraceTier" "TAKES" "[I") (.int 10)) (.int 1)) (by decide +kernel))
    | 11, _ => exact va_eqt (z := 2) (hs (Cond.eq (.elem (.static "TraceTier" "TAKES" "[I") (.int 11)) (.int 2)) (by decide +kernel))
    | 12, _ => exact va_eqt (z := 1) (hs (Cond.eq (.elem (.static "TraceTier" "TAKES" "[I") (.int 12)) (.int 1)) (by decide +kernel))
    | 13, _ => exact va_eqt (z := 0) (hs (Cond.eq (.elem (.static "TraceTier" "TAKES" "[I") (.int 13)) (.int 0)) (by decide +kernel))
    | 14, _ => exact va_eqt (z := 1) (hs (Cond.eq (.elem (.static "TraceTier" "TAKES" "[I") (.int 14)) (.int 1)) (by decide +kernel))
    | 15, _ => exact va_eqt (z := 0) (hs (Cond.eq (.elem (.static "TraceTier" "TAKES" "[I") (.int 15)) (.int 0)) (by decide +kernel))
    | j + 16, h => omega
  obtain ⟨t, ht, hT⟩ := va_Tof (A := lw_A s) (f := fun j => .int (z_takes j)) (N := 16) (by omega) (hs (Cond.arrayOf (.static "TraceTier" "TAKES" "[I") .int) (by decide +kernel)) (va_eqt (z := 16) (hs (Cond.eq (.length (.static "TraceTier" "TAKES" "[I")) (.int 16)) (by decide +kernel))) hel hA
  exact ⟨t, va_Zof (hts (Cond.laysStatic "TraceTier" "TAKES" "[I") (by decide +kernel)) (hts (Cond.initialized "TraceTier") (by decide +kernel)) ht hA, hT⟩
theorem st_GIVES (hts : ∀ w ∈ lw_tbl, w.before #[Value.ref b] s = true) (hgv : (Jvm.Cond.and given_1 narrow_1).before #[Value.ref b] s = true) : ∃ t : Nat, va_Z "TraceTier" "GIVES" "[I" (.ref t) (lw_A s) s s.heap ∧ va_T .int t 16 (fun j => .int (z_gives j)) (lw_A s) s s.heap := by
  have hs := flat_of_before _ hgv
  have hA : ∀ a : Nat, a < s.heap.size → ¬ lw_A s a := fun a ha => Nat.not_le.mpr ha
  have hel : ∀ j : Nat, j < 16 → (Term.elem (.static "TraceTier" "GIVES" "[I") (.int (Int32.ofNat j))).eval #[Value.ref b] s none [] s = some (.int (z_gives j)) := by
    intro j hj
    match j, hj with
    | 0, _ => exact va_eqt (z := 1) (hs (Cond.eq (.elem (.static "TraceTier" "GIVES" "[I") (.int 0)) (.int 1)) (by decide +kernel))
    | 1, _ => exact va_eqt (z := 1) (hs (Cond.eq (.elem (.static "TraceTier" "GIVES" "[I") (.int 1)) (.int 1)) (by decide +kernel))
    | 2, _ => exact va_eqt (z := 0) (hs (Cond.eq (.elem (.static "TraceTier" "GIVES" "[I") (.int 2)) (.int 0)) (by decide +kernel))
    | 3, _ => exact va_eqt (z := 1) (hs (Cond.eq (.elem (.static "TraceTier" "GIVES" "[I") (.int 3)) (.int 1)) (by decide +kernel))
    | 4, _ => exact va_eqt (z := 1) (hs (Cond.eq (.elem (.static "TraceTier" "GIVES" "[I") (.int 4)) (.int 1)) (by decide +kernel))
    | 5, _ => exact va_eqt (z := 1) (hs (Cond.eq (.elem (.static "TraceTier" "GIVES" "[I") (.int 5)) (.int 1)) (by decide +kernel))
    | 6, _ => exact va_eqt (z := 1) (hs (Cond.eq (.elem (.static "TraceTier" "GIVES" "[I") (.int 6)) (.int 1)) (by decide +kernel))
    | 7, _ => exact va_eqt (z := 1) (hs (Cond.eq (.elem (.static "TraceTier" "GIVES" "[I") (.int 7)) (.int 1)) (by decide +kernel))
    | 8, _ => exact va_eqt (z := 1) (hs (Cond.eq (.elem (.static "TraceTier" "GIVES" "[I") (.int 8)) (.int 1)) (by decide +kernel))
    | 9, _ => exact va_eqt (z := 2) (hs (Cond.eq (.elem (.static "TraceTier" "GIVES" "[I") (.int 9)) (.int 2)) (by decide +kernel))
    | 10, _ => exact va_eqt (z := 0) (hs (Cond.eq (.elem (.static "TraceTier" "GIVES" "[I") (.int 10)) (.int 0)) (by decide +kernel))
    | 11, _ => exact va_eqt (z := 2) (hs (Cond.eq (.elem (.static "TraceTier" "GIVES" "[I") (.int 11)) (.int 2)) (by decide +kernel))
    | 12, _ => exact va_eqt (z := 0) (hs (Cond.eq (.elem (.static "TraceTier" "GIVES" "[I") (.int 12)) (.int 0)) (by decide +kernel))
    | 13, _ => exact va_eqt (z := 0) (hs (Cond.eq (.elem (.static "TraceTier" "GIVES" "[I") (.int 13)) (.int 0)) (by decide +kernel))
    | 14, _ => exact va_eqt (z := 0) (hs (Cond.eq (.elem (.static "TraceTier" "GIVES" "[I") (.int 14)) (.int 0)) (by decide +kernel))
    | 15, _ => exact va_eqt (z := 0) (hs (Cond.eq (.elem (.static "TraceTier" "GIVES" "[I") (.int 15)) (.int 0)) (by decide +kernel))
    | j + 16, h => omega
  obtain ⟨t, ht, hT⟩ := va_Tof (A := lw_A s) (f := fun j => .int (z_gives j)) (N := 16) (by omega) (hs (Cond.arrayOf (.static "TraceTier" "GIVES" "[I") .int) (by decide +kernel)) (va_eqt (z := 16) (hs (Cond.eq (.length (.static "TraceTier" "GIVES" "[I")) (.int 16)) (by decide +kernel))) hel hA
  exact ⟨t, va_Zof (hts (Cond.laysStatic "TraceTier" "GIVES" "[I") (by decide +kernel)) (hts (Cond.initialized "TraceTier") (by decide +kernel)) ht hA, hT⟩
theorem tx_one {k : Nat} {tx : String} (hr : (Cond.stringRef "TraceTier" k tx).before #[Value.ref b] s = true) (he : (Cond.exactly (.string "TraceTier" k) "java/lang/String").before #[Value.ref b] s = true) : ∃ sa, vk_R "TraceTier" k tx sa s := by
  obtain ⟨a, c, cA, kA, q1, _⟩ := Cond.exactly_spec (args := #[Value.ref b]) (first := s) (o := none) (s := s) (idx := []) (t := .string "TraceTier" k) (cls := "java/lang/String") he
  exact ⟨a, vk_R.of hr q1⟩
theorem tx_all (hts : ∀ w ∈ lw_tbl, w.before #[Value.ref b] s = true) (hgv : (Jvm.Cond.and given_1 narrow_1).before #[Value.ref b] s = true) : ∀ q ∈ z_tx, ∃ sa, vk_R "TraceTier" q.1 q.2 sa s := by
  have hs := flat_of_before _ hgv
  unfold z_tx
  exact List.forall_mem_cons.mpr ⟨tx_one (hts (Cond.stringRef "TraceTier" 75 "no such operation, or none of its operands") (by decide +kernel)) (hs (Cond.exactly (.string "TraceTier" 75) "java/lang/String") (by decide +kernel)), List.forall_mem_cons.mpr ⟨tx_one (hts (Cond.stringRef "TraceTier" 89 "the program was begun, or the code is full") (by decide +kernel)) (hs (Cond.exactly (.string "TraceTier" 89) "java/lang/String") (by decide +kernel)), List.forall_mem_cons.mpr ⟨tx_one (hts (Cond.stringRef "TraceTier" 100 "the code is not sound") (by decide +kernel)) (hs (Cond.exactly (.string "TraceTier" 100) "java/lang/String") (by decide +kernel)), List.forall_mem_cons.mpr ⟨tx_one (hts (Cond.stringRef "TraceTier" 112 "steps are 1 .. 500") (by decide +kernel)) (hs (Cond.exactly (.string "TraceTier" 112) "java/lang/String") (by decide +kernel)), List.forall_mem_cons.mpr ⟨tx_one (hts (Cond.stringRef "TraceTier" 114 "the program was not begun") (by decide +kernel)) (hs (Cond.exactly (.string "TraceTier" 114) "java/lang/String") (by decide +kernel)), List.forall_mem_cons.mpr ⟨tx_one (hts (Cond.stringRef "TraceTier" 124 "no such local") (by decide +kernel)) (hs (Cond.exactly (.string "TraceTier" 124) "java/lang/String") (by decide +kernel)), List.forall_mem_cons.mpr ⟨tx_one (hts (Cond.stringRef "TraceTier" 130 "the stack has no such number") (by decide +kernel)) (hs (Cond.exactly (.string "TraceTier" 130) "java/lang/String") (by decide +kernel)), List.forall_mem_cons.mpr ⟨tx_one (hts (Cond.stringRef "TraceTier" 142 "no such number is kept") (by decide +kernel)) (hs (Cond.exactly (.string "TraceTier" 142) "java/lang/String") (by decide +kernel)), List.forall_mem_cons.mpr ⟨tx_one (hts (Cond.stringRef "TraceTier" 169 "no such count") (by decide +kernel)) (hs (Cond.exactly (.string "TraceTier" 169) "java/lang/String") (by decide +kernel)), List.forall_mem_cons.mpr ⟨tx_one (hts (Cond.stringRef "TraceTier" 171 "no such instruction, or nothing told of it") (by decide +kernel)) (hs (Cond.exactly (.string "TraceTier" 171) "java/lang/String") (by decide +kernel)), List.forall_mem_cons.mpr ⟨tx_one (hts (Cond.stringRef "TraceTier" 179 "no such trace") (by decide +kernel)) (hs (Cond.exactly (.string "TraceTier" 179) "java/lang/String") (by decide +kernel)), List.forall_mem_cons.mpr ⟨tx_one (hts (Cond.stringRef "TraceTier" 204 "nothing such is told of a trace") (by decide +kernel)) (hs (Cond.exactly (.string "TraceTier" 204) "java/lang/String") (by decide +kernel)), fun _ h => absurd h List.not_mem_nil⟩⟩⟩⟩⟩⟩⟩⟩⟩⟩⟩⟩
theorem xs_at {l : Launch} (hlt : l.stackTraces = false) (hts : ∀ w ∈ lw_tbl, w.before #[Value.ref b] s = true) (hgv : (Jvm.Cond.and given_1 narrow_1).before #[Value.ref b] s = true) : z_xs l s (lw_A s) s.heap := by
  have hs := flat_of_before _ hgv
  have hA : ∀ a : Nat, a < s.heap.size → ¬ lw_A s a := fun a ha => Nat.not_le.mpr ha
  refine ⟨hlt, vx_Zqof (hts (Cond.laysStatic "java/lang/Throwable" "UNASSIGNED_STACK" "[Ljava/lang/StackTraceElement;") (by decide +kernel)) (hts (Cond.initialized "java/lang/Throwable") (by decide +kernel)) (hs (Cond.isRef (.static "java/lang/Throwable" "UNASSIGNED_STACK" "[Ljava/lang/StackTraceElement;")) (by decide +kernel)) hA, vx_Zqof (hts (Cond.laysStatic "java/lang/Throwable" "SUPPRESSED_SENTINEL" "Ljava/util/List;") (by decide +kernel)) (hts (Cond.initialized "java/lang/Throwable") (by decide +kernel)) (hs (Cond.isRef (.static "java/lang/Throwable" "SUPPRESSED_SENTINEL" "Ljava/util/List;")) (by decide +kernel)) hA, tx_all hts hgv, ?_, va_Nc.of (hs (Cond.not (.castable "java/lang/IllegalStateException" "java/lang/IllegalArgumentException")) (by decide +kernel))⟩
  unfold z_xw
  refine List.forall_mem_cons.mpr ⟨?_, List.forall_mem_cons.mpr ⟨?_, List.forall_mem_cons.mpr ⟨?_, List.forall_mem_cons.mpr ⟨?_, List.forall_mem_cons.mpr ⟨?_, List.forall_mem_cons.mpr ⟨?_, fun _ h => absurd h List.not_mem_nil⟩⟩⟩⟩⟩⟩
  · exact hts (.castable "java/lang/IllegalArgumentException" "java/lang/IllegalArgumentException") (by decide +kernel)
  · exact hts (.castable "java/lang/IllegalStateException" "java/lang/IllegalStateException") (by decide +kernel)
  · exact hts (.castable "java/lang/IndexOutOfBoundsException" "java/lang/IndexOutOfBoundsException") (by decide +kernel)
  · exact hts (.declares (Bundle.initS "java/lang/RuntimeException")) (by decide +kernel)
  · exact hts (.declares (Bundle.initS "java/lang/Exception")) (by decide +kernel)
  · exact hts (.declares (Bundle.initS "java/lang/Throwable")) (by decide +kernel)
theorem nw_at (hts : ∀ w ∈ lw_tbl, w.before #[Value.ref b] s = true) : z_nw s := by
  refine ⟨fun w hw => ?_, va_AO.of (hts (Cond.arrayOver (.object "TraceTier$Trace")) (by decide +kernel))⟩
  have h := List.mem_filter.mp hw
  have h1 := hts w h.1
  have h2 := h.2
  cases w <;> first | exact h1 | (simp [z_nest] at h2)
theorem kn_at (hts : ∀ w ∈ lw_tbl, w.before #[Value.ref b] s = true) : ∃ D : va_G, ∀ (k : Nat) (q : vw_C), vwCl[k]? = some q → u_Kn s q.1 q.2.1 q.2.2 (D.1 k) (D.2 k) := by
  obtain ⟨c0, i0, k0⟩ := u_known (C := RX0) (T := TX0) (N := 6) (n := 6) hts (by decide +kernel) (hts (.instantiable RX0 6) (by decide +kernel))
  obtain ⟨c1, i1, k1⟩ := u_known (C := RX1) (T := TX1) (N := 4) (n := 4) hts (by decide +kernel) (hts (.instantiable RX1 4) (by decide +kernel))
  obtain ⟨c2, i2, k2⟩ := u_known (C := RX2) (T := TX2) (N := 3) (n := 3) hts (by decide +kernel) (hts (.instantiable RX2 3) (by decide +kernel))
  obtain ⟨c3, i3, k3⟩ := u_known (C := RX3) (T := TX3) (N := 6) (n := 6) hts (by decide +kernel) (hts (.instantiable RX3 6) (by decide +kernel))
  obtain ⟨c4, i4, k4⟩ := u_known (C := RX4) (T := TX4) (N := 3) (n := 3) hts (by decide +kernel) (hts (.instantiable RX4 3) (by decide +kernel))
  obtain ⟨c5, i5, k5⟩ := u_known (C := RX5) (T := TX5) (N := 4) (n := 4) hts (by decide +kernel) (hts (.instantiable RX5 4) (by decide +kernel))
  obtain ⟨c6, i6, k6⟩ := u_known (C := RX6) (T := TX6) (N := 4) (n := 4) hts (by decide +kernel) (hts (.instantiable RX6 4) (by decide +kernel))
  obtain ⟨c7, i7, k7⟩ := u_known (C := RX7) (T := TX7) (N := 10) (n := 10) hts (by decide +kernel) (hts (.instantiable RX7 10) (by decide +kernel))
  obtain ⟨c8, i8, k8⟩ := u_known (C := RX8) (T := TX8) (N := 6) (n := 6) hts (by decide +kernel) (hts (.instantiable RX8 6) (by decide +kernel))
  obtain ⟨c9, i9, k9⟩ := u_known (C := RX9) (T := TX9) (N := 5) (n := 5) hts (by decide +kernel) (hts (.instantiable RX9 5) (by decide +kernel))
  obtain ⟨c10, i10, k10⟩ := u_known (C := RX10) (T := TX10) (N := 13) (n := 13) hts (by decide +kernel) (hts (.instantiable RX10 13) (by decide +kernel))
  obtain ⟨c11, i11, k11⟩ := u_known (C := RX11) (T := TX11) (N := 47) (n := 47) hts (by decide +kernel) (hts (.instantiable RX11 47) (by decide +kernel))
  refine ⟨(fun k => (if k = 0 then c0 else (if k = 1 then c1 else (if k = 2 then c2 else (if k = 3 then c3 else (if k = 4 then c4 else (if k = 5 then c5 else (if k = 6 then c6 else (if k = 7 then c7 else (if k = 8 then c8 else (if k = 9 then c9 else (if k = 10 then c10 else c11))))))))))), fun k => (if k = 0 then i0 else (if k = 1 then i1 else (if k = 2 then i2 else (if k = 3 then i3 else (if k = 4 then i4 else (if k = 5 then i5 else (if k = 6 then i6 else (if k = 7 then i7 else (if k = 8 then i8 else (if k = 9 then i9 else (if k = 10 then i10 else i11)))))))))))), fun k q hq => ?_⟩
  match k, hq with
  | 0, hq => cases hq; exact k0
  | 1, hq => cases hq; exact k1
  | 2, hq => cases hq; exact k2
  | 3, hq => cases hq; exact k3
  | 4, hq => cases hq; exact k4
  | 5, hq => cases hq; exact k5
  | 6, hq => cases hq; exact k6
  | 7, hq => cases hq; exact k7
  | 8, hq => cases hq; exact k8
  | 9, hq => cases hq; exact k9
  | 10, hq => cases hq; exact k10
  | 11, hq => cases hq; exact k11
  | k + 12, hq => simp [vwCl] at hq
theorem ar_at {ty : FieldType} (h : (Cond.arrayClass ty).before #[Value.ref b] s = true) : ∃ (c : ClassId) (k : Class) (comp : ClassId), s.vm.findClass ("[" ++ ty.toString) = some c ∧ s.vm.classes[c]? = some k ∧ k.kind = .array comp ty := Cond.arrayClass_spec h
theorem va_at' (hts : ∀ w ∈ lw_tbl, w.before #[Value.ref b] s = true) : ∃ (D : va_G) (dA : Nat → ClassId), va_K D vwCl (z_tys dA) s := by
  obtain ⟨D, hD⟩ := kn_at hts
  obtain ⟨c0, k0, m0, a1, a2, a3⟩ := ar_at (hts (.arrayClass .int) (by decide +kernel))
  obtain ⟨c1, k1, m1, b1, b2, b3⟩ := ar_at (hts (.arrayClass .boolean) (by decide +kernel))
  obtain ⟨c2, k2, m2, d1, d2, d3⟩ := ar_at (hts (.arrayClass .long) (by decide +kernel))
  obtain ⟨m3, c3, k3, e1, _, e2, e3, e4⟩ := Cond.arrayOver_spec (hts (Cond.arrayOver (.object "TraceTier$Trace")) (by decide +kernel))
  refine ⟨D, fun k => if k = 0 then c0 else if k = 1 then c1 else if k = 2 then c2 else c3, hD, fun k q hq => ?_⟩
  match k, hq with
  | 0, hq => cases hq; exact ⟨fun N z => ⟨fun k h => (by cases h), k0, a2, m0, a3⟩, a1⟩
  | 1, hq => cases hq; exact ⟨fun N z => ⟨fun k h => (by cases h), k1, b2, m1, b3⟩, b1⟩
  | 2, hq => cases hq; exact ⟨fun N z => ⟨fun k h => (by cases h), k2, d2, m2, d3⟩, d1⟩
  | 3, hq => cases hq; exact ⟨fun N z => ⟨fun k h => (by cases h), k3, e2, m3, e3⟩, k3, m3, e2, e3, e1, e4⟩
  | k + 4, hq => simp [z_tys] at hq
end
/-- the whole law, walked -/
theorem lw_whole {b L mc ms : Nat} {xs : Nat → Int32} {Qx : z_QT} (hL : L ≤ 2048) (hret : ∀ (σ : Nat → Nat → Int32) (τ : Nat → Nat → Int64) (lv : List (Option Value)) (rc rs : Nat), z_Y (z_lc b L xs) Qx b M_L_law 10 mc ms rc rs 716 lv [.int 1] (124, z_r0, σ, τ)) : z_Y (z_lc b L xs) Qx b M_L_law 10 mc ms (512 + 124) (6 * 512 + 3645) 0 [none, none, none, none, none, none, none] [] (0, z_rp 0, (fun _ _ => 0), fun _ _ => 0) :=
  lw_start (d := 7) (lw_loop (d := 9) (INV := INV) hL (fun j σ τ w5 w6 rc rs hI hj K => cs_all (D := 2) hI hj hL K) hret 512 0 z_s0 (fun _ _ => 0) none none ⟨0, 0, 0, start_rel⟩ (by omega) (by omega))
/-- the end where nobody asks for more -/
theorem lw_retT {p : Program} {l : Launch} {e : Env} {R : Room} {s : State} {m : MethodId} {args : Array Value} {below : List Frame} {meth : Method} {c : Code} {Q : State → Prop} {locs : List Loc} {cells slots : Nat} (hQ : ∀ t, Q t) (hx : p.tables.exec = Jvm.exec) (hb : c.code = code) (hr : meth.sig.returnType = ret) (hlocks : meth.locks = false) {pc : Nat} {H : Heap} {ls : Array Slot} (hdg : decode code pc = .ok (.ireturn, 1)) : W p l e R s m args below meth c H locs cells slots Q (F0 m pc ls [.int 1]) := by
  intro T hT X
  obtain ⟨fs, hret, hrun, hended, hW, hframe⟩ := X.leave (v := some (.int 1)) (hlocks := hlocks) (fun h => by rw [hr] at h; cases h)
  have hmeth' : T.vm.method? m = some meth := X.method'
  refine ⟨T.setFrames fs, ?_, hQ _⟩
  jvm_step X.here [X.here.top, hx, hb, hdg, hmeth', hr, ret, narrow_b1]
  (try refine ⟨rfl, ?_⟩); (try refine ⟨rfl, ?_⟩)
  first | (intro acts; rw [hret _ acts rfl rfl rfl]) | rw [hret _ _ rfl rfl rfl]
  exact Steps.refl _
/-- the end: what was written is the law's own -/
theorem lw_end {b L mc ms : Nat} {xs : Nat → Int32} (hmc : mc ≤ 601024) (hms : ms ≤ 7293033) : ∀ (σ : Nat → Nat → Int32) (τ : Nat → Nat → Int64) (lv : List (Option Value)) (rc rs : Nat), z_Y (z_lc b L xs) lw_X b M_L_law 10 mc ms rc rs 716 lv [.int 1] (124, z_r0, σ, τ) := by
  intro σ τ lv rc rs p l e s m args below meth c D dA A n0 h0 h H ls locs cells slots hC h0b hz hat hS hlv hsl hc hs
  by_cases hP : ∀ q, A q → s.heap.size ≤ q
  · have K : W p l e (z_rm 10 mc ms) s m args below meth c H locs cells slots (lw_Z below args s) (F0 m 716 ls [.int 1]) := by
      refine va_forget (fun q hq => hP _ (hS.2.2 q hq)) ?_
      refine W.widen (k := 601024) (n := 7293033) (by omega) (by omega) ?_
      exact lw_retR hz.1 hz.2.1 hz.2.2.2.1 hz.2.2.2.2.2.2.1 dL_law_716
    intro T hT X
    obtain ⟨t, h1, h2⟩ := K T hT X
    exact ⟨t, h1, fun _ => h2⟩
  · exact lw_retT (fun t h => absurd h hP) hz.1 hz.2.1 hz.2.2.2.1 hz.2.2.2.2.2.2.1 dL_law_716
/-- from the entry, for every script of at most 2048 ints, the law comes to its end with true -/
theorem whole_start {p : Program} {e : Env} {s : State} {m : MethodId} {below : List Frame} {meth : Method} {c : Code} (l : Launch) (hlt : l.stackTraces = false) {b L : Nat} {xs : Nat → Int32} (hL : L ≤ 2048) (hnm : meth.name = "law") (C0 : lw_At p s m meth c b L xs) : W p l e room_1 s m #[Value.ref b] below meth c s.heap [] 0 0 (lw_Z below #[Value.ref b] s) (entryFrame m ([Value.ref b] : List Value).toArray 7) := by
  obtain ⟨hx, hb, hr, hml, hown, hts, hX, hbl, hlocks, hgv⟩ := id C0
  obtain ⟨D, dA, hK⟩ := va_at' hts
  have hl := lv_entry ([.ref b]) (n := 7) (Nat.le_of_ble_eq_true rfl)
  rw [lg_entry_eq]
  generalize (lg_sl ([.ref b]) ++ List.replicate (7 - (lg_sl ([.ref b])).length) Slot.unset).toArray = ls at hl ⊢
  have hl : lv_has ls 7 [(0, .ref b)] := hl
  have hst : z_st (lw_A s) s s.heap := by
    unfold z_st z_sts
    exact List.forall_mem_cons.mpr ⟨st_TAKES hts hgv, List.forall_mem_cons.mpr ⟨st_GIVES hts hgv, fun _ h => absurd h List.not_mem_nil⟩⟩
  have hzC : z_C M_L_law p s m #[Value.ref b] meth c D dA (lw_A s) := ⟨hx, hb, hml, hr, hown, fun w hw => hts w (List.mem_filter.mp hw).1, hlocks, hnm, hK, fun _ h => h, nw_at hts, hst⟩
  have K := lw_whole (b := b) (mc := 601024) (ms := 7293033) (xs := xs) (Qx := lw_X) hL (lw_end (Nat.le_refl _) (Nat.le_refl _)) p l e s m #[Value.ref b] below meth c D dA (lw_A s) 0 id id s.heap ls [] 0 0 ⟨xs_at hlt hts hgv, hX, hbl, Nat.not_le.mpr hbl⟩ (hl.2.2 (0, .ref b) (by simp)) hzC ⟨Nat.le_refl _, fun _ _ => rfl, fun i hi => absurd hi (Nat.not_lt_zero _), fun k q h => by simp [z_ws] at h, ⟨fun i j p q h => by simp [z_ws] at h, fun k q h => by simp [z_ws] at h⟩⟩ va_S.rf ⟨hl.1, hl.2.1, fun i v hv => ?_⟩ (fun v hv => by cases hv) (by omega) (by omega)
  · have K' : W p l e (z_rm 10 601024 7293033) s m #[Value.ref b] below meth c s.heap [] 0 0 (lw_Z below #[Value.ref b] s) (F0 m 0 ls []) := by
      intro T hT X
      obtain ⟨t, h1, h2⟩ := K T hT X
      exact ⟨t, h1, h2 (fun _ h => h)⟩
    exact W_room (R' := z_rm 10 601024 7293033) (by decide) (by decide) (by decide) (by decide) K'
  · rcases (show i = 0 ∨ i = 1 ∨ i = 2 ∨ i = 3 ∨ i = 4 ∨ i = 5 ∨ i = 6 ∨ 7 ≤ i by omega) with rfl | rfl | rfl | rfl | rfl | rfl | rfl | h7
    all_goals first | cases hv | skip
    have : ([none, none, none, none, none, none, none] : List (Option Value))[i]? = none := List.getElem?_eq_none (by simpa using h7)
    rw [this] at hv
    cases hv
set_option maxHeartbeats 4000000 in
theorem lw_walk (l : Launch) (hlt : l.stackTraces = false) (b : Addr) (xs : List Int32) : MetFree l x (headSpec (Jvm.Cond.code x code maxLocals ret :: tables_1) room_1) (lw_P b xs) (fun _ _ _ _ _ => True) lw_Q := by
  refine MetFree.of_bodyS (code := code) (maxLocals := maxLocals) (ret := ret) (by decide) ?_ ?_
  · intro args s m h hn
    obtain ⟨meth, c, h1, h2, h3, h4, h5, h6, -, -⟩ := Cond.code_spec hn (atoms_spec (ws := Jvm.Cond.code x code maxLocals ret :: tables_1) h _ List.mem_cons_self)
    exact ⟨meth, c, h1, h2, h3, h4, h5, h6⟩
  · intro p e s m args below meth c s₁ B hml0 hP _
    obtain ⟨rfl, hx, hbd, hgv⟩ := hP
    obtain ⟨scr, harrAt, hlist, hof, hsmall⟩ := hx
    obtain ⟨hcb, hkn, -, -⟩ := State.arrayAt?_spec harrAt
    have hown : s.vm.findClass R_law = some m.cls := findClass_of_methodNamed B.named
    have hnm : meth.name = "law" := (name_of_methodNamed B.named B.method).1
    have hts0 : ∀ c ∈ (Jvm.Cond.code x code maxLocals ret :: tables_1), c.before #[Value.ref b] s = true := atoms_spec (ws := Jvm.Cond.code x code maxLocals ret :: tables_1) B.pre
    have hts : ∀ w ∈ lw_tbl, w.before #[Value.ref b] s = true := k2_hts_sels lw_privs (fun w hw => hts0 w (List.mem_cons_of_mem _ hw)) lw_privs_ok
    have hml : c.maxLocals = 7 := B.maxLocals_eq (hts0 _ List.mem_cons_self)
    have X₀ : Stand p l e room_1 s m #[Value.ref b] below meth c s₁ [] 0 0 := Stand.of_body B
    have hh0 : s₁.heap = s.heap := by rw [B.state]; rfl
    have hsz : scr.slots.size = xs.length := by rw [← Array.length_toList, hlist, List.length_map]
    have hval : ∀ j : Nat, j < xs.length → scr.slots[j]? = some (.int (xs.getD j 0)) := fun j hj => by
      rw [← Array.getElem?_toList, hlist]
      simp [hj]
    have hbl : b < s.heap.size := (Array.getElem?_eq_some_iff.mp hcb).1
    have hX : va_X b xs.length (fun j => xs.getD j 0) s s.heap := ⟨scr, hcb, hof, hkn, hsz, hval⟩
    have K : W p l e room_1 s m #[Value.ref b] below meth c s₁.heap [] 0 0 (lw_Z below #[Value.ref b] s) (entryFrame m ([Value.ref b] : List Value).toArray 7) := by
      rw [hh0]
      exact whole_start l hlt hbd hnm ⟨B.exec, B.bytes, B.returns, hml, hown, hts, hX, hbl, B.notSynchronized, hgv⟩
    obtain ⟨t, a1, o, b1, b2, b3⟩ := K s₁ rfl X₀
    exact ⟨t, o, a1, b1, b2, b3⟩
theorem lw_pre_spec {args : Array Value} {s : State} (h : (Jvm.Cond.and given_1 narrow_1).before args s = true) (hr : rest_1_c.before args s = true) : ∃ (b : Addr) (xs : List Int32), lw_P b xs args s := by
  have hs := flat_of_before _ h
  have hq := flat_of_before _ hr
  have hc : (Cond.count 1).before args s = true := hs _ (by decide +kernel)
  have harr : (Cond.arrayOf (.arg 0) .int).before args s = true := hs _ (by decide +kernel)
  have hle : (Cond.le (.length (.arg 0)) (.int 2048)).before args s = true := hs _ (by decide +kernel)
  have hlen : (Cond.isInt (.length (.arg 0))).before args s = true := hq _ (by decide +kernel)
  have hall : (Cond.all (.arg 0) (.isInt (.elem (.arg 0) (.index 0)))).before args s = true := hq _ (by decide +kernel)
  obtain ⟨b, xs, hb, hx⟩ := State.ints_of_pre rfl harr hlen hall
  have hsm : xs.length < 2 ^ 31 := hx.choose_spec.2.2.2
  have hev : (Term.length (.arg 0)).eval args s none [] s = some (.int xs.length.toInt32) := hx.length_eval hb
  have hv := Cond.le_ints hev (show (Term.int 2048).eval args s none [] s = some (.int 2048) from rfl)
  have hd : xs.length.toInt32 ≤ 2048 := by
    simpa [Cond.before, Cond.holds, hv] using hle
  have hN : xs.length ≤ 2048 := (Int32.ofNat_le_ofNat hsm (by decide)).mp (show Int32.ofNat xs.length ≤ Int32.ofNat 2048 from hd)
  exact ⟨b, xs, Cond.one_arg hc (show args[0]? = some (.ref b) from hb), hx, hN, h⟩
theorem lw_comes (l : Launch) (hlt : l.stackTraces = false) : Comes l x (Jvm.Cond.code x code maxLocals ret :: tables_1) room_1 (fun tb e args s => Calls_1 tb e args s ∧ rest_1 tb e args s ∧ Pre_1 tb e args s)
    (fun _ _ args s o t => lw_Q args s o t) := by
  intro p e ha hc hk s m args below hf hfit hheap happ hpre
  obtain ⟨b, xs, hP⟩ := lw_pre_spec hpre.2.2 hpre.2.1
  obtain ⟨k, o, h1, h2, h3, hQ⟩ := lw_walk l hlt b xs p e ha hc hk s m args below hf ((Spec.applies_iff_loose hf).mp happ).1 hP trivial
  exact ⟨k, o, h1, h2, h3, hQ⟩
theorem lw_frame {s t : State} {o : Outcome} {args : Array Value} (h : Framed s o t [] 601024 7293033) :
    Framed s o t (fieldLocs frame_1_writes args s ++ arrayLocs frame_1_arrays args s ++ staticLocs frame_1_statics s) 601024 7293033 := h
theorem lw_limb (L : Cond) (hL : ∀ (args : Array Value) (s t : State), L.after args s (.returned (some (.int 1))) t = true) :
    ArmFor flags0 classFile x code maxLocals ret World_1 tables_1 room_1 Calls_1 rest_1 Pre_1
      (fun tb e a s o t => postC L tb e a s o t ∧ Framed s o t (fieldLocs frame_1_writes a s ++ arrayLocs frame_1_arrays a s ++ staticLocs frame_1_statics s) 601024 7293033) := by
  intro l hfl _ _ p e ha hc hk s m args below hf hfit hheap happ hpre
  have hlt : l.stackTraces = false := by
    unfold Launch.stackTraces
    rw [hfl]
    decide
  obtain ⟨k, o, h1, h2, h3, rfl, hF⟩ := lw_comes l hlt p e ha hc hk s m args below hf hfit hheap happ hpre
  exact ⟨k, _, h1, h2, h3, hL args s _, lw_frame hF⟩
theorem i_vc : Claimed_1_1 ∧ Claimed_1_2 := ⟨lw_limb limb_1_1 (fun args s t => by simp [limb_1_1, Cond.after, Cond.holds, Cond.value]), lw_limb limb_1_2 (fun args s t => Cond.after_iff.mpr (by
  first | (rw [show limb_1_2 = Cond.eq .result (.int 1) from rfl, Cond.eq_ints (x := 1) (y := 1) rfl rfl]; simp; done) | (simp [limb_1_2, Cond.value, Term.eval]; done)))⟩
