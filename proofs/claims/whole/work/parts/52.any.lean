/-! PART 52: the rows of a walk, for any end and with a further fact of the body -/
abbrev z_CT : Type := Launch → State → Code → (Nat → Prop) → Prop
abbrev z_QT : Type := List Frame → Array Value → State → va_G → (Nat → ClassId) → (Nat → Prop) → Nat → (Nat → Nat) → State → Prop
def z_U (Cx : z_CT) (Qx : z_QT) (M : z_M) (d mc ms rc rs : Nat) (pc : Nat) (lv : List (Option Value)) (st : List Value) (X : z_X) : Prop :=
  ∀ (p : Program) (l : Launch) (e : Env) (s : State) (m : MethodId) (args : Array Value) (below : List Frame) (meth : Method) (c : Code) (D : va_G) (dA : Nat → ClassId) (A : Nat → Prop) (n0 : Nat) (h0 h : Nat → Nat) (H : Heap) (ls : Array Slot) (locs : List Loc) (cells slots : Nat), Cx l s c A →
    z_C M p s m args meth c D dA A → z_at D dA A n0 h0 h X H → va_S A s.heap H locs → z_lv M.2.2.1 h X.1 ls lv → z_sl X.1 st → cells + rc ≤ mc → slots + rs ≤ ms →
    W p l e (z_rm d mc ms) s m args below meth c H locs cells slots (Qx below args s D dA A n0 h0) (F0 m pc ls (st.map (z_v h)))
section U0
variable {Cx : z_CT} {Qx : z_QT}
variable {M : z_M} {d mc ms rc rs : Nat} {r : Option Value} {X1 X : z_X} {pc pc' : Nat} {lv : List (Option Value)} {st st' : List Value}
theorem zu_pure (hs : z_sl X.1 st → z_sl X.1 st')
    (hw : ∀ {p : Program} {l : Launch} {e : Env} {R : Room} {s : State} {m : MethodId} {args : Array Value} {below : List Frame} {meth : Method} {c : Code} {H : Heap} {locs : List Loc} {cells slots : Nat} {Q : State → Prop} {ls : Array Slot} (h : Nat → Nat), p.tables.exec = Jvm.exec → c.code = M.2.1 →
      W p l e R s m args below meth c H locs cells slots Q (F0 m pc' ls (st'.map (z_v h))) → W p l e R s m args below meth c H locs cells slots Q (F0 m pc ls (st.map (z_v h))))
    (k : z_U Cx Qx M d mc ms rc rs pc' lv st' X) : z_U Cx Qx M d mc ms rc rs pc lv st X := by
  intro p l e s m args below meth c D dA A n0 h0 h H ls locs cells slots CX C hat hS hl hst hc hs'
  exact hw h C.1 C.2.1 (k p l e s m args below meth c D dA A n0 h0 h H ls locs cells slots CX C hat hS hl (hs hst) hc hs')
end U0
section U1
variable {Cx : z_CT} {Qx : z_QT}
variable {M : z_M} {d mc ms rc rs : Nat} {r : Option Value} {X1 X : z_X} {pc : Nat} {lv : List (Option Value)} {st : List Value}
theorem zu_if_eq {x : Int32} {off : Int} {tgt : Nat} (hd : decode M.2.1 pc = .ok (.ifCond .eq off, 3)) (ht : (pc : Int) + off = (tgt : Int)) (kt : x = 0 → z_U Cx Qx M d mc ms rc rs tgt lv st X) (kf : ¬ x = 0 → z_U Cx Qx M d mc ms rc rs (pc + 3) lv st X) : z_U Cx Qx M d mc ms rc rs pc lv (.int x :: st) X := by
  intro p l e s m args below meth c D dA A n0 h0 h H ls locs cells slots CX C hat hS hl hst hc hs
  exact lv_if_eq C.1 C.2.1 hd ht (fun q => kt q p l e s m args below meth c D dA A n0 h0 h H ls locs cells slots CX C hat hS hl (fun v hv => hst v (by simp [hv])) hc hs) (fun q => kf q p l e s m args below meth c D dA A n0 h0 h H ls locs cells slots CX C hat hS hl (fun v hv => hst v (by simp [hv])) hc hs)
end U1
section U2
variable {Cx : z_CT} {Qx : z_QT}
variable {M : z_M} {d mc ms rc rs : Nat} {r : Option Value} {X1 X : z_X} {pc : Nat} {lv : List (Option Value)} {st : List Value}
theorem zu_if_ne {x : Int32} {off : Int} {tgt : Nat} (hd : decode M.2.1 pc = .ok (.ifCond .ne off, 3)) (ht : (pc : Int) + off = (tgt : Int)) (kt : ¬ x = 0 → z_U Cx Qx M d mc ms rc rs tgt lv st X) (kf : x = 0 → z_U Cx Qx M d mc ms rc rs (pc + 3) lv st X) : z_U Cx Qx M d mc ms rc rs pc lv (.int x :: st) X := by
  intro p l e s m args below meth c D dA A n0 h0 h H ls locs cells slots CX C hat hS hl hst hc hs
  exact lv_if_ne C.1 C.2.1 hd ht (fun q => kt q p l e s m args below meth c D dA A n0 h0 h H ls locs cells slots CX C hat hS hl (fun v hv => hst v (by simp [hv])) hc hs) (fun q => kf q p l e s m args below meth c D dA A n0 h0 h H ls locs cells slots CX C hat hS hl (fun v hv => hst v (by simp [hv])) hc hs)
end U2
section U3
variable {Cx : z_CT} {Qx : z_QT}
variable {M : z_M} {d mc ms rc rs : Nat} {r : Option Value} {X1 X : z_X} {pc : Nat} {lv : List (Option Value)} {st : List Value}
theorem zu_if_lt {x : Int32} {off : Int} {tgt : Nat} (hd : decode M.2.1 pc = .ok (.ifCond .lt off, 3)) (ht : (pc : Int) + off = (tgt : Int)) (kt : x < 0 → z_U Cx Qx M d mc ms rc rs tgt lv st X) (kf : ¬ x < 0 → z_U Cx Qx M d mc ms rc rs (pc + 3) lv st X) : z_U Cx Qx M d mc ms rc rs pc lv (.int x :: st) X := by
  intro p l e s m args below meth c D dA A n0 h0 h H ls locs cells slots CX C hat hS hl hst hc hs
  exact lv_if_lt C.1 C.2.1 hd ht (fun q => kt q p l e s m args below meth c D dA A n0 h0 h H ls locs cells slots CX C hat hS hl (fun v hv => hst v (by simp [hv])) hc hs) (fun q => kf q p l e s m args below meth c D dA A n0 h0 h H ls locs cells slots CX C hat hS hl (fun v hv => hst v (by simp [hv])) hc hs)
end U3
section U4
variable {Cx : z_CT} {Qx : z_QT}
variable {M : z_M} {d mc ms rc rs : Nat} {r : Option Value} {X1 X : z_X} {pc : Nat} {lv : List (Option Value)} {st : List Value}
theorem zu_if_ge {x : Int32} {off : Int} {tgt : Nat} (hd : decode M.2.1 pc = .ok (.ifCond .ge off, 3)) (ht : (pc : Int) + off = (tgt : Int)) (kt : 0 ≤ x → z_U Cx Qx M d mc ms rc rs tgt lv st X) (kf : ¬ 0 ≤ x → z_U Cx Qx M d mc ms rc rs (pc + 3) lv st X) : z_U Cx Qx M d mc ms rc rs pc lv (.int x :: st) X := by
  intro p l e s m args below meth c D dA A n0 h0 h H ls locs cells slots CX C hat hS hl hst hc hs
  exact lv_if_ge C.1 C.2.1 hd ht (fun q => kt q p l e s m args below meth c D dA A n0 h0 h H ls locs cells slots CX C hat hS hl (fun v hv => hst v (by simp [hv])) hc hs) (fun q => kf q p l e s m args below meth c D dA A n0 h0 h H ls locs cells slots CX C hat hS hl (fun v hv => hst v (by simp [hv])) hc hs)
end U4
section U5
variable {Cx : z_CT} {Qx : z_QT}
variable {M : z_M} {d mc ms rc rs : Nat} {r : Option Value} {X1 X : z_X} {pc : Nat} {lv : List (Option Value)} {st : List Value}
theorem zu_if_gt {x : Int32} {off : Int} {tgt : Nat} (hd : decode M.2.1 pc = .ok (.ifCond .gt off, 3)) (ht : (pc : Int) + off = (tgt : Int)) (kt : 0 < x → z_U Cx Qx M d mc ms rc rs tgt lv st X) (kf : ¬ 0 < x → z_U Cx Qx M d mc ms rc rs (pc + 3) lv st X) : z_U Cx Qx M d mc ms rc rs pc lv (.int x :: st) X := by
  intro p l e s m args below meth c D dA A n0 h0 h H ls locs cells slots CX C hat hS hl hst hc hs
  exact lv_if_gt C.1 C.2.1 hd ht (fun q => kt q p l e s m args below meth c D dA A n0 h0 h H ls locs cells slots CX C hat hS hl (fun v hv => hst v (by simp [hv])) hc hs) (fun q => kf q p l e s m args below meth c D dA A n0 h0 h H ls locs cells slots CX C hat hS hl (fun v hv => hst v (by simp [hv])) hc hs)
end U5
section U6
variable {Cx : z_CT} {Qx : z_QT}
variable {M : z_M} {d mc ms rc rs : Nat} {r : Option Value} {X1 X : z_X} {pc : Nat} {lv : List (Option Value)} {st : List Value}
theorem zu_if_le {x : Int32} {off : Int} {tgt : Nat} (hd : decode M.2.1 pc = .ok (.ifCond .le off, 3)) (ht : (pc : Int) + off = (tgt : Int)) (kt : x ≤ 0 → z_U Cx Qx M d mc ms rc rs tgt lv st X) (kf : ¬ x ≤ 0 → z_U Cx Qx M d mc ms rc rs (pc + 3) lv st X) : z_U Cx Qx M d mc ms rc rs pc lv (.int x :: st) X := by
  intro p l e s m args below meth c D dA A n0 h0 h H ls locs cells slots CX C hat hS hl hst hc hs
  exact lv_if_le C.1 C.2.1 hd ht (fun q => kt q p l e s m args below meth c D dA A n0 h0 h H ls locs cells slots CX C hat hS hl (fun v hv => hst v (by simp [hv])) hc hs) (fun q => kf q p l e s m args below meth c D dA A n0 h0 h H ls locs cells slots CX C hat hS hl (fun v hv => hst v (by simp [hv])) hc hs)
end U6
section U7
variable {Cx : z_CT} {Qx : z_QT}
variable {M : z_M} {d mc ms rc rs : Nat} {r : Option Value} {X1 X : z_X} {pc : Nat} {lv : List (Option Value)} {st : List Value}
theorem zu_icmp_eq {x y : Int32} {off : Int} {tgt : Nat} (hd : decode M.2.1 pc = .ok (.if_icmp .eq off, 3)) (ht : (pc : Int) + off = (tgt : Int)) (kt : x = y → z_U Cx Qx M d mc ms rc rs tgt lv st X) (kf : ¬ x = y → z_U Cx Qx M d mc ms rc rs (pc + 3) lv st X) : z_U Cx Qx M d mc ms rc rs pc lv (.int y :: .int x :: st) X := by
  intro p l e s m args below meth c D dA A n0 h0 h H ls locs cells slots CX C hat hS hl hst hc hs
  exact lv_icmp_eq C.1 C.2.1 hd ht (fun q => kt q p l e s m args below meth c D dA A n0 h0 h H ls locs cells slots CX C hat hS hl (fun v hv => hst v (by simp [hv])) hc hs) (fun q => kf q p l e s m args below meth c D dA A n0 h0 h H ls locs cells slots CX C hat hS hl (fun v hv => hst v (by simp [hv])) hc hs)
end U7
section U8
variable {Cx : z_CT} {Qx : z_QT}
variable {M : z_M} {d mc ms rc rs : Nat} {r : Option Value} {X1 X : z_X} {pc : Nat} {lv : List (Option Value)} {st : List Value}
theorem zu_icmp_ne {x y : Int32} {off : Int} {tgt : Nat} (hd : decode M.2.1 pc = .ok (.if_icmp .ne off, 3)) (ht : (pc : Int) + off = (tgt : Int)) (kt : ¬ x = y → z_U Cx Qx M d mc ms rc rs tgt lv st X) (kf : x = y → z_U Cx Qx M d mc ms rc rs (pc + 3) lv st X) : z_U Cx Qx M d mc ms rc rs pc lv (.int y :: .int x :: st) X := by
  intro p l e s m args below meth c D dA A n0 h0 h H ls locs cells slots CX C hat hS hl hst hc hs
  exact lv_icmp_ne C.1 C.2.1 hd ht (fun q => kt q p l e s m args below meth c D dA A n0 h0 h H ls locs cells slots CX C hat hS hl (fun v hv => hst v (by simp [hv])) hc hs) (fun q => kf q p l e s m args below meth c D dA A n0 h0 h H ls locs cells slots CX C hat hS hl (fun v hv => hst v (by simp [hv])) hc hs)
end U8
section U9
variable {Cx : z_CT} {Qx : z_QT}
variable {M : z_M} {d mc ms rc rs : Nat} {r : Option Value} {X1 X : z_X} {pc : Nat} {lv : List (Option Value)} {st : List Value}
theorem zu_icmp_lt {x y : Int32} {off : Int} {tgt : Nat} (hd : decode M.2.1 pc = .ok (.if_icmp .lt off, 3)) (ht : (pc : Int) + off = (tgt : Int)) (kt : x < y → z_U Cx Qx M d mc ms rc rs tgt lv st X) (kf : ¬ x < y → z_U Cx Qx M d mc ms rc rs (pc + 3) lv st X) : z_U Cx Qx M d mc ms rc rs pc lv (.int y :: .int x :: st) X := by
  intro p l e s m args below meth c D dA A n0 h0 h H ls locs cells slots CX C hat hS hl hst hc hs
  exact lv_icmp_lt C.1 C.2.1 hd ht (fun q => kt q p l e s m args below meth c D dA A n0 h0 h H ls locs cells slots CX C hat hS hl (fun v hv => hst v (by simp [hv])) hc hs) (fun q => kf q p l e s m args below meth c D dA A n0 h0 h H ls locs cells slots CX C hat hS hl (fun v hv => hst v (by simp [hv])) hc hs)
end U9
section U10
variable {Cx : z_CT} {Qx : z_QT}
variable {M : z_M} {d mc ms rc rs : Nat} {r : Option Value} {X1 X : z_X} {pc : Nat} {lv : List (Option Value)} {st : List Value}
theorem zu_icmp_ge {x y : Int32} {off : Int} {tgt : Nat} (hd : decode M.2.1 pc = .ok (.if_icmp .ge off, 3)) (ht : (pc : Int) + off = (tgt : Int)) (kt : y ≤ x → z_U Cx Qx M d mc ms rc rs tgt lv st X) (kf : ¬ y ≤ x → z_U Cx Qx M d mc ms rc rs (pc + 3) lv st X) : z_U Cx Qx M d mc ms rc rs pc lv (.int y :: .int x :: st) X := by
  intro p l e s m args below meth c D dA A n0 h0 h H ls locs cells slots CX C hat hS hl hst hc hs
  exact lv_icmp_ge C.1 C.2.1 hd ht (fun q => kt q p l e s m args below meth c D dA A n0 h0 h H ls locs cells slots CX C hat hS hl (fun v hv => hst v (by simp [hv])) hc hs) (fun q => kf q p l e s m args below meth c D dA A n0 h0 h H ls locs cells slots CX C hat hS hl (fun v hv => hst v (by simp [hv])) hc hs)
end U10
section U11
variable {Cx : z_CT} {Qx : z_QT}
variable {M : z_M} {d mc ms rc rs : Nat} {r : Option Value} {X1 X : z_X} {pc : Nat} {lv : List (Option Value)} {st : List Value}
theorem zu_icmp_gt {x y : Int32} {off : Int} {tgt : Nat} (hd : decode M.2.1 pc = .ok (.if_icmp .gt off, 3)) (ht : (pc : Int) + off = (tgt : Int)) (kt : y < x → z_U Cx Qx M d mc ms rc rs tgt lv st X) (kf : ¬ y < x → z_U Cx Qx M d mc ms rc rs (pc + 3) lv st X) : z_U Cx Qx M d mc ms rc rs pc lv (.int y :: .int x :: st) X := by
  intro p l e s m args below meth c D dA A n0 h0 h H ls locs cells slots CX C hat hS hl hst hc hs
  exact lv_icmp_gt C.1 C.2.1 hd ht (fun q => kt q p l e s m args below meth c D dA A n0 h0 h H ls locs cells slots CX C hat hS hl (fun v hv => hst v (by simp [hv])) hc hs) (fun q => kf q p l e s m args below meth c D dA A n0 h0 h H ls locs cells slots CX C hat hS hl (fun v hv => hst v (by simp [hv])) hc hs)
end U11
section U12
variable {Cx : z_CT} {Qx : z_QT}
variable {M : z_M} {d mc ms rc rs : Nat} {r : Option Value} {X1 X : z_X} {pc : Nat} {lv : List (Option Value)} {st : List Value}
theorem zu_icmp_le {x y : Int32} {off : Int} {tgt : Nat} (hd : decode M.2.1 pc = .ok (.if_icmp .le off, 3)) (ht : (pc : Int) + off = (tgt : Int)) (kt : x ≤ y → z_U Cx Qx M d mc ms rc rs tgt lv st X) (kf : ¬ x ≤ y → z_U Cx Qx M d mc ms rc rs (pc + 3) lv st X) : z_U Cx Qx M d mc ms rc rs pc lv (.int y :: .int x :: st) X := by
  intro p l e s m args below meth c D dA A n0 h0 h H ls locs cells slots CX C hat hS hl hst hc hs
  exact lv_icmp_le C.1 C.2.1 hd ht (fun q => kt q p l e s m args below meth c D dA A n0 h0 h H ls locs cells slots CX C hat hS hl (fun v hv => hst v (by simp [hv])) hc hs) (fun q => kf q p l e s m args below meth c D dA A n0 h0 h H ls locs cells slots CX C hat hS hl (fun v hv => hst v (by simp [hv])) hc hs)
end U12
section U13
variable {Cx : z_CT} {Qx : z_QT}
variable {M : z_M} {d mc ms rc rs : Nat} {r : Option Value} {X1 X : z_X} {pc : Nat} {lv : List (Option Value)} {st : List Value}
theorem zu_isub {x y z : Int32} (hd : decode M.2.1 pc = .ok (.isub, 1)) (hz : x - y = z) (k : z_U Cx Qx M d mc ms rc rs (pc + 1) lv (.int z :: st) X) : z_U Cx Qx M d mc ms rc rs pc lv (.int y :: .int x :: st) X := by
  subst hz
  refine zu_pure (fun hst v hv => ?_) (fun h hx hb kk => lv_isub hx hb hd kk) k
  rcases List.mem_cons.mp hv with rfl | hv
  · exact z_sv.int
  · exact hst v (by simp [hv])
end U13
section U14
variable {Cx : z_CT} {Qx : z_QT}
variable {M : z_M} {d mc ms rc rs : Nat} {r : Option Value} {X1 X : z_X} {pc : Nat} {lv : List (Option Value)} {st : List Value}
theorem zu_iconst {n : Int} {v : Int32} (hd : decode M.2.1 pc = .ok (.iconst n, 1)) (hv : Int32.ofInt n = v) (k : z_U Cx Qx M d mc ms rc rs (pc + 1) lv (.int v :: st) X) : z_U Cx Qx M d mc ms rc rs pc lv st X := by
  refine zu_pure (fun hst v hv => ?_) (fun h hx hb kk => lv_iconst hx hb hd hv kk) k
  rcases List.mem_cons.mp hv with rfl | hv
  · exact z_sv.int
  · exact hst v hv
end U14
section U15
variable {Cx : z_CT} {Qx : z_QT}
variable {M : z_M} {d mc ms rc rs : Nat} {r : Option Value} {X1 X : z_X} {pc : Nat} {lv : List (Option Value)} {st : List Value}
theorem zu_bipush {n : Int} {v : Int32} (hd : decode M.2.1 pc = .ok (.bipush n, 2)) (hv : (Int8.ofInt n).toInt32 = v) (k : z_U Cx Qx M d mc ms rc rs (pc + 2) lv (.int v :: st) X) : z_U Cx Qx M d mc ms rc rs pc lv st X := by
  refine zu_pure (fun hst v hv => ?_) (fun h hx hb kk => lv_bipush hx hb hd hv kk) k
  rcases List.mem_cons.mp hv with rfl | hv
  · exact z_sv.int
  · exact hst v hv
end U15
section U16
variable {Cx : z_CT} {Qx : z_QT}
variable {M : z_M} {d mc ms rc rs : Nat} {r : Option Value} {X1 X : z_X} {pc : Nat} {lv : List (Option Value)} {st : List Value}
theorem zu_sipush {n : Int} {v : Int32} (hd : decode M.2.1 pc = .ok (.sipush n, 3)) (hv : (Int16.ofInt n).toInt32 = v) (k : z_U Cx Qx M d mc ms rc rs (pc + 3) lv (.int v :: st) X) : z_U Cx Qx M d mc ms rc rs pc lv st X := by
  refine zu_pure (fun hst v hv => ?_) (fun h hx hb kk => lv_sipush hx hb hd hv kk) k
  rcases List.mem_cons.mp hv with rfl | hv
  · exact z_sv.int
  · exact hst v hv
end U16
section U17
variable {Cx : z_CT} {Qx : z_QT}
variable {M : z_M} {d mc ms rc rs : Nat} {r : Option Value} {X1 X : z_X} {pc : Nat} {lv : List (Option Value)} {st : List Value}
theorem zu_iload_n {k : Fin 4} {i : Nat} {x : Int32} (hd : decode M.2.1 pc = .ok (.iload_n k, 1)) (hi : (k : Nat) = i) (hv : lv[i]? = some (some (.int x))) (kk : z_U Cx Qx M d mc ms rc rs (pc + 1) lv (.int x :: st) X) : z_U Cx Qx M d mc ms rc rs pc lv st X := by
  intro p l e s m args below meth c D dA A n0 h0 h H ls locs cells slots CX C hat hS hl hst hc hs
  exact lv_iload_n C.1 C.2.1 hd hi (hl.2.2 i _ hv).1 (kk p l e s m args below meth c D dA A n0 h0 h H ls locs cells slots CX C hat hS hl (fun v hv => (List.mem_cons.mp hv).elim (fun q => q ▸ z_sv.int) (hst v)) hc hs)
end U17
section U18
variable {Cx : z_CT} {Qx : z_QT}
variable {M : z_M} {d mc ms rc rs : Nat} {r : Option Value} {X1 X : z_X} {pc : Nat} {lv : List (Option Value)} {st : List Value}
theorem zu_iload {i : Nat} {x : Int32} (hd : decode M.2.1 pc = .ok (.iload i, 2)) (hv : lv[i]? = some (some (.int x))) (kk : z_U Cx Qx M d mc ms rc rs (pc + 2) lv (.int x :: st) X) : z_U Cx Qx M d mc ms rc rs pc lv st X := by
  intro p l e s m args below meth c D dA A n0 h0 h H ls locs cells slots CX C hat hS hl hst hc hs
  exact lv_iload C.1 C.2.1 hd (hl.2.2 i _ hv).1 (kk p l e s m args below meth c D dA A n0 h0 h H ls locs cells slots CX C hat hS hl (fun v hv => (List.mem_cons.mp hv).elim (fun q => q ▸ z_sv.int) (hst v)) hc hs)
end U18
section U19
variable {Cx : z_CT} {Qx : z_QT}
variable {M : z_M} {d mc ms rc rs : Nat} {r : Option Value} {X1 X : z_X} {pc : Nat} {lv : List (Option Value)} {st : List Value}
theorem zu_aload_n {k : Fin 4} {i : Nat} {x : Nat} (hd : decode M.2.1 pc = .ok (.aload_n k, 1)) (hi : (k : Nat) = i) (hv : lv[i]? = some (some (.ref x))) (kk : z_U Cx Qx M d mc ms rc rs (pc + 1) lv (.ref x :: st) X) : z_U Cx Qx M d mc ms rc rs pc lv st X := by
  intro p l e s m args below meth c D dA A n0 h0 h H ls locs cells slots CX C hat hS hl hst hc hs
  exact lv_aload_n C.1 C.2.1 hd hi (hl.2.2 i _ hv).1 (kk p l e s m args below meth c D dA A n0 h0 h H ls locs cells slots CX C hat hS hl (fun v hv' => (List.mem_cons.mp hv').elim (fun q => q ▸ (hl.2.2 i _ hv).2.1) (hst v)) hc hs)
end U19
section U20
variable {Cx : z_CT} {Qx : z_QT}
variable {M : z_M} {d mc ms rc rs : Nat} {r : Option Value} {X1 X : z_X} {pc : Nat} {lv : List (Option Value)} {st : List Value}
theorem zu_aload {i : Nat} {x : Nat} (hd : decode M.2.1 pc = .ok (.aload i, 2)) (hv : lv[i]? = some (some (.ref x))) (kk : z_U Cx Qx M d mc ms rc rs (pc + 2) lv (.ref x :: st) X) : z_U Cx Qx M d mc ms rc rs pc lv st X := by
  intro p l e s m args below meth c D dA A n0 h0 h H ls locs cells slots CX C hat hS hl hst hc hs
  exact lv_aload C.1 C.2.1 hd (hl.2.2 i _ hv).1 (kk p l e s m args below meth c D dA A n0 h0 h H ls locs cells slots CX C hat hS hl (fun v hv' => (List.mem_cons.mp hv').elim (fun q => q ▸ (hl.2.2 i _ hv).2.1) (hst v)) hc hs)
end U20
section U21
variable {Cx : z_CT} {Qx : z_QT}
variable {M : z_M} {d mc ms rc rs : Nat} {r : Option Value} {X1 X : z_X} {pc : Nat} {lv : List (Option Value)} {st : List Value}
theorem zu_tableOut {dflt lo hi : Int} {offs : Array Int} {len : Nat} {x : Int32} {tgt : Nat} (hd : decode M.2.1 pc = .ok (.tableswitch dflt lo hi offs, len)) (h : x.toInt < lo ∨ hi < x.toInt) (ht : (pc : Int) + dflt = (tgt : Int)) (kk : z_U Cx Qx M d mc ms rc rs tgt lv st X) : z_U Cx Qx M d mc ms rc rs pc lv (.int x :: st) X :=
  zu_pure (fun hst w hw => hst w (List.mem_cons_of_mem _ hw)) (fun _ hx hb kk => lv_tableOut hx hb hd h ht kk) kk
end U21
section U22
variable {Cx : z_CT} {Qx : z_QT}
variable {M : z_M} {d mc ms rc rs : Nat} {r : Option Value} {X1 : z_X} {n : Nat} {ρ : Nat → Nat → Option Nat} {σ : Nat → Nat → Int32} {τ : Nat → Nat → Int64} {pc : Nat} {lv : List (Option Value)} {st : List Value}
theorem zu_aald {i len j o : Nat} {x : Int32} (hd : decode M.2.1 pc = .ok (.aaload, 1)) (hk : z_k i = (4, len)) (hx : x = nI j) (hj : j < len) (ho : ρ i j = some o) (kk : z_U Cx Qx M d mc ms rc rs (pc + 1) lv (.ref o :: st) (n, ρ, σ, τ)) : z_U Cx Qx M d mc ms rc rs pc lv (.int x :: .ref i :: st) (n, ρ, σ, τ) := by
  intro p l e s m args below meth c D dA A n0 h0 h H ls locs cells slots CX C hat hS hlv hst hc hs
  have he := z_cell (dA := dA) (h := h) (ρ := ρ) (σ := σ) (τ := τ) hst.tl.hd.of hk
  obtain ⟨hx', hb, hml, hret, hown, hts, hlk, hnm, hK, hA, hnw, hstt⟩ := id C
  obtain ⟨hin, hcl⟩ := z_in hk hx hj
  have hon : o < n := hat.2.2.1 i hst.tl.hd.of j o ho
  refine va_aldq hx' hb hK hat.2.2.2.1 i 3 (f := fun j => (ρ i j).map h) he rfl hin hd ?_
  rw [hcl, ho]
  exact kk p l e s m args below meth c D dA A n0 h0 h H ls locs cells slots CX C hat hS hlv (hst.tl.tl.cons (z_sv.mk hon)) hc hs
end U22
section U23
variable {Cx : z_CT} {Qx : z_QT}
variable {M : z_M} {d mc ms rc rs : Nat} {r : Option Value} {X1 X : z_X} {pc : Nat} {lv : List (Option Value)} {st : List Value}
theorem zu_astore_n {k : Fin 4} {i x : Nat} (hd : decode M.2.1 pc = .ok (.astore_n k, 1)) (hi : (k : Nat) = i) (hn : i < M.2.2.1) (kk : z_U Cx Qx M d mc ms rc rs (pc + 1) (lv.set i (some (.ref x))) st X) : z_U Cx Qx M d mc ms rc rs pc lv (.ref x :: st) X := by
  intro p l e s m args below meth c D dA A n0 h0 h H ls locs cells slots CX C hat hS hl hst hc hs
  exact lv_astore_n C.1 C.2.1 hd hi hl.has hn rfl (fun ls' h' => kk p l e s m args below meth c D dA A n0 h0 h H ls' locs cells slots CX C hat hS (hl.put (v := .ref x) (hst _ List.mem_cons_self) rfl h') (fun v hv => hst v (List.mem_cons_of_mem _ hv)) hc hs)
end U23
section U24
variable {Cx : z_CT} {Qx : z_QT}
variable {M : z_M} {d mc ms rc rs : Nat} {r : Option Value} {X1 : z_X} {n : Nat} {ρ : Nat → Nat → Option Nat} {σ : Nat → Nat → Int32} {τ : Nat → Nat → Int64} {pc : Nat} {lv : List (Option Value)} {st : List Value}
theorem zu_getI {idx ci k i : Nat} {x : Int32} (hd : decode M.2.1 pc = .ok (.getfield idx, 3)) (hl : z_fl M.1.cls idx ci k) (hr : z_rf ci k = false) (hk : z_k i = (0, ci)) (hx : σ i k = x) (kk : z_U Cx Qx M d mc ms rc rs (pc + 3) lv (.int x :: st) (n, ρ, σ, τ)) : z_U Cx Qx M d mc ms rc rs pc lv (.ref i :: st) (n, ρ, σ, τ) := by
  intro p l e s m args below meth c D dA A n0 h0 h H ls locs cells slots CX C hat hS hlv hst hc hs
  have he := z_cell (dA := dA) (h := h) (ρ := ρ) (σ := σ) (τ := τ) hst.hd.of hk
  obtain ⟨hx', hb, hml, hret, hown, hts, hlk, hnm, hK, hA, hnw, hstt⟩ := id C
  refine va_get hx' hb hts (z_uw ci hl.1) hown hK hat.2.2.2.1 i (fs := z_fs h ci (ρ i) (σ i)) he (z_cl ci hl.1) k hl.2.1 (hts _ hl.2.2) (fun x h => h) (v := .int x) ?_ hd (kk p l e s m args below meth c D dA A n0 h0 h H ls locs cells slots CX C hat hS hlv (hst.tl.cons z_sv.int) hc hs)
  unfold z_fs
  rw [z_rget _ hl.2.1, hr]
  exact congrArg (fun z => some (Value.int z)) hx
end U24
section U25
variable {Cx : z_CT} {Qx : z_QT}
variable {M : z_M} {d mc ms rc rs : Nat} {r : Option Value} {X1 : z_X} {n : Nat} {ρ : Nat → Nat → Option Nat} {σ : Nat → Nat → Int32} {τ : Nat → Nat → Int64} {pc : Nat} {lv : List (Option Value)} {st : List Value}
theorem zu_getR {idx ci k i o : Nat} (hd : decode M.2.1 pc = .ok (.getfield idx, 3)) (hl : z_fl M.1.cls idx ci k) (hr : z_rf ci k = true) (hk : z_k i = (0, ci)) (ho : ρ i k = some o) (kk : z_U Cx Qx M d mc ms rc rs (pc + 3) lv (.ref o :: st) (n, ρ, σ, τ)) : z_U Cx Qx M d mc ms rc rs pc lv (.ref i :: st) (n, ρ, σ, τ) := by
  intro p l e s m args below meth c D dA A n0 h0 h H ls locs cells slots CX C hat hS hlv hst hc hs
  have he := z_cell (dA := dA) (h := h) (ρ := ρ) (σ := σ) (τ := τ) hst.hd.of hk
  obtain ⟨hx', hb, hml, hret, hown, hts, hlk, hnm, hK, hA, hnw, hstt⟩ := id C
  have hon : o < n := hat.2.2.1 i hst.hd.of k o ho
  refine va_get hx' hb hts (z_uw ci hl.1) hown hK hat.2.2.2.1 i (fs := z_fs h ci (ρ i) (σ i)) he (z_cl ci hl.1) k hl.2.1 (hts _ hl.2.2) (fun x h => h) (v := .ref (h o)) ?_ hd (kk p l e s m args below meth c D dA A n0 h0 h H ls locs cells slots CX C hat hS hlv (hst.tl.cons (z_sv.mk hon)) hc hs)
  unfold z_fs
  rw [z_rget _ hl.2.1, hr]
  show some (va_rf ((ρ i k).map h)) = _
  rw [ho]
  rfl
end U25
section U26
variable {Cx : z_CT} {Qx : z_QT}
theorem zu_after {M : z_M} {d mc ms rc rs rc' rs' mc' ms' : Nat} {r' : Option Value} {X X2 : z_X} {pc : Nat} {lv : List (Option Value)} {st st0 : List Value} {p : Program} {l : Launch} {e : Env} {s : State} {m : MethodId} {args a : Array Value} {below : List Frame} {meth : Method} {c : Code} {D : va_G} {dA : Nat → ClassId} {A : Nat → Prop} {n0 : Nat} {h0 h : Nat → Nat} {H : Heap} {ls : Array Slot} {locs : List Loc} {cells slots : Nat}
    (hr : va_Run p l e (z_rm d mc ms) s m args below meth c H locs cells slots mc' ms' (F0 m pc ls st0) (st.map (z_v h)) (z_Qc r' X2 D dA (va_A (z_ws dA h X) H.size) X.1 h a) (va_A (z_ws dA h X) H.size))
    (CX : Cx l s c A) (C : z_C M p s m args meth c D dA A) (hat : z_at D dA A n0 h0 h X H) (hS : va_S A s.heap H locs) (hlv : z_lv M.2.2.1 h X.1 ls lv) (hst : z_sl X.1 st) (hc : cells + rc ≤ mc) (hs : slots + rs ≤ ms) (hb : mc' + rc' ≤ rc ∧ ms' + rs' ≤ rs)
    (kk : z_U Cx Qx M d mc ms rc' rs' (pc + 3) lv (r'.toList ++ st) X2) : W p l e (z_rm d mc ms) s m args below meth c H locs cells slots (Qx below args s D dA A n0 h0) (F0 m pc ls st0) := by
  intro T hT Xs
  obtain ⟨v, st₀, t, T', L, e0, X', hL, e1, e2, hq, stp⟩ := hr T hT Xs
  obtain ⟨⟨h1, hv, hat1, hrs⟩, hz, hk⟩ := hq
  cases hv
  rw [e0] at hz hk
  have hsub := z_sub C hat hS
  have hS1 : va_S A s.heap T'.heap (locs ++ L) := ⟨Nat.le_trans hS.1 (by rw [e1]; exact hz), fun q g1 g2 => by
      rw [e1, hk q (Nat.lt_of_lt_of_le g1 hS.1) (fun z => g2 (hsub q z))]
      exact hS.2.1 q g1 g2, fun q hq => by
      rcases List.mem_append.mp hq with g | g
      · exact hS.2.2 q g
      · exact hsub _ (hL q g)⟩
  have hat2 : z_at D dA A n0 h0 h1 X2 T'.heap := ⟨Nat.le_trans hat.1 hat1.1, fun i hi => (hat1.2.1 i (Nat.lt_of_lt_of_le hi hat.1)).trans (hat.2.1 i hi), hat1.2.2.1, by rw [e1]; exact hat1.2.2.2.1, hat1.2.2.2.2.weaken (fun k q _ g => hsub q.1 g)⟩
  have k2 := kk p l e s m args below meth c D dA A n0 h0 h1 T'.heap ls (locs ++ L) (cells + mc') (slots + ms') CX C hat2 hS1 (hlv.mv hat1.2.1 hat1.1) (fun v hv => by
      rcases List.mem_append.mp hv with g | g
      · exact hrs v (by simpa using g)
      · exact (hst v g).up hat1.1) (by omega) (by omega)
  obtain ⟨t2, a1, b1⟩ := k2 T' rfl X'
  refine ⟨t2, stp t2 ?_, b1⟩
  have e3 : (r'.toList ++ st).map (z_v h1) = (r'.map (z_v h1)).toList ++ st.map (z_v h) := by
    rw [List.map_append, z_vs_eq hat1.2.1 hst]
    cases r' <;> rfl
  rw [e3] at a1
  exact a1
end U26
section U27
variable {Cx : z_CT} {Qx : z_QT}
variable {M M' : z_M} {d mc ms rc rs rc' rs' mc' ms' : Nat} {r r' : Option Value} {X X1 X2 : z_X} {pc : Nat} {lv : List (Option Value)} {st stk : List Value} {idx na : Nat} {as : List Value} {o ci : Nat}
theorem zu_callV (hd : decode M.2.1 pc = .ok (.invokevirtual idx, 3)) (hl : z_lV M.1.cls idx M' na) (hsp : z_MV M' d mc' ms' (.ref o :: as) X r' X2) (hk : z_k o = (0, ci)) (hci : ci < 12 ∧ z_R ci = M'.1.cls) (hstk : as.reverse ++ .ref o :: st = stk) (hn : as.length = na) (hrest : (st.map fun v => v.category).sum ≤ 8) (hb : mc' + rc' ≤ rc ∧ ms' + rs' ≤ rs)
    (kk : z_U Cx Qx M (d + 1) mc ms rc' rs' (pc + 3) lv (r'.toList ++ st) X2) : z_U Cx Qx M (d + 1) mc ms rc rs pc lv stk X := by
  subst hstk
  intro p l e s m args below meth c D dA A n0 h0 h H ls locs cells slots CX C hat hS hlv hst hc hs
  obtain ⟨hx', hb', hml, hret, hown, hts, hlk, hnm, hK, hA, hnw, hstt⟩ := id C
  have hso : z_sl X.1 (.ref o :: as) := fun v hv => hst v (by
    rcases List.mem_cons.mp hv with rfl | hv
    · exact List.mem_append_right _ List.mem_cons_self
    · exact List.mem_append_left _ (List.mem_reverse.mpr hv))
  have hst' : z_sl X.1 st := fun v hv => hst v (List.mem_append_right _ (List.mem_cons_of_mem _ hv))
  obtain ⟨n, ρ, σ, τ⟩ := X
  have he := z_cell (dA := dA) (h := h) (ρ := ρ) (σ := σ) (τ := τ) hso.hd.of hk
  have hw := hl.1
  refine zu_after (a := (as.map (z_v h)).toArray) (va_runV (As := as.map (z_v h)) (rest := st.map (z_v h)) (b := h o) (C := M'.1.cls) (n := na) (Pc := z_Pc dA D h H.size (.ref o :: as) (n, ρ, σ, τ)) (Qc := z_Qc r' X2 D dA (va_A (z_ws dA h (n, ρ, σ, τ)) H.size) n h) ⟨hx', hb', hml, hown, hts⟩ (hsp l D dA h H.size) (cwV na hts (z_good ?_) rfl rfl rfl ⟨rfl, hl.2.1⟩ ⟨?_, ?_⟩) ⟨z_blind, ?_, z_pre C hat hS hso⟩ rfl (by rw [List.length_map]; exact hn) hlv.1 (by simp [z_v]) (lv_room (by rw [z_cats]; exact hrest)) hd ⟨?_, ?_⟩) CX C hat hS hlv hst' hc hs hb kk
  · intro w h2
    rcases List.mem_append.mp h2 with h2 | h2
    · exact hw w (by simp at h2 ⊢; rcases h2 with h2 | h2 | h2 | h2 <;> simp [h2])
    · rcases List.mem_cons.mp h2 with rfl | h2
      · exact hw _ (by simp [z_cd])
      · exact h2
  · show d + 1 + 1 ≤ d + 1 + 1; omega
  · show 8 + (M'.2.2.1 + 11) + (34 * d + 40) ≤ 34 * (d + 1) + 40
    have := hl.2.2
    omega
  · have := va_recv hK hat.2.2.2.1 (z_cl ci hci.1) he
    rwa [hci.2] at this
  · show cells + mc' ≤ mc; omega
  · show slots + ms' ≤ ms; omega
end U27
section U28
variable {Cx : z_CT} {Qx : z_QT}
variable {M M' : z_M} {d mc ms rc rs rc' rs' mc' ms' : Nat} {r r' : Option Value} {X X1 X2 : z_X} {pc : Nat} {lv : List (Option Value)} {st stk : List Value} {idx na : Nat} {as : List Value} {o ci : Nat}
theorem zu_callS (hd : decode M.2.1 pc = .ok (.invokestatic idx, 3)) (hl : z_lS M.1.cls idx M' na) (hsp : z_MV M' d mc' ms' as X r' X2) (hstk : as.reverse ++ st = stk) (hn : as.length = na) (hrest : (st.map fun v => v.category).sum ≤ 8) (hb : mc' + rc' ≤ rc ∧ ms' + rs' ≤ rs)
    (kk : z_U Cx Qx M (d + 1) mc ms rc' rs' (pc + 3) lv (r'.toList ++ st) X2) : z_U Cx Qx M (d + 1) mc ms rc rs pc lv stk X := by
  subst hstk
  intro p l e s m args below meth c D dA A n0 h0 h H ls locs cells slots CX C hat hS hlv hst hc hs
  obtain ⟨hx', hb', hml, hret, hown, hts, hlk, hnm, hK, hA, hnw, hstt⟩ := id C
  have hso : z_sl X.1 as := fun v hv => hst v (List.mem_append_left _ (List.mem_reverse.mpr hv))
  have hst' : z_sl X.1 st := fun v hv => hst v (List.mem_append_right _ hv)
  have hw := hl.1
  refine zu_after (a := (as.map (z_v h)).toArray) (va_runS (As := as.map (z_v h)) (rest := st.map (z_v h)) (n := na) (Pc := z_Pc dA D h H.size as X) (Qc := z_Qc r' X2 D dA (va_A (z_ws dA h X) H.size) X.1 h) ⟨hx', hb', hml, hown, hts⟩ (hsp l D dA h H.size) ⟨callB_of na hts (z_good ?_) rfl rfl rfl (hts _ (hw _ (by simp))) (hts _ (hw _ (by simp))) hl.2.1 ⟨?_, ?_⟩, hts _ (hw _ (by simp))⟩ ⟨z_blind, z_pre C hat hS hso⟩ rfl (by rw [List.length_map]; exact hn) hlv.1 (by simp) (lv_room (by rw [z_cats]; exact hrest)) hd ⟨?_, ?_⟩) CX C hat hS hlv hst' hc hs hb kk
  · intro w h2
    rcases List.mem_cons.mp h2 with rfl | h2
    · exact hw _ (by simp [z_cd])
    · exact h2
  · show d + 1 + 1 ≤ d + 1 + 1; omega
  · show 8 + (M'.2.2.1 + 11) + (34 * d + 40) ≤ 34 * (d + 1) + 40
    have := hl.2.2
    omega
  · show cells + mc' ≤ mc; omega
  · show slots + ms' ≤ ms; omega
end U28
section U29
variable {Cx : z_CT} {Qx : z_QT}
variable {M M' : z_M} {d mc ms rc rs rc' rs' mc' ms' : Nat} {r : Option Value} {v : Value} {X X1 X2 : z_X} {pc : Nat} {lv : List (Option Value)} {st stk : List Value} {idx na : Nat} {as : List Value} {o ci : Nat}
theorem zu_cV1 (hd : decode M.2.1 pc = .ok (.invokevirtual idx, 3)) (hl : z_lV M.1.cls idx M' na) (hsp : z_MV M' d 0 0 (.ref o :: as) X (some v) X2) (hk : z_k o = (0, ci)) (hci : ci < 12 ∧ z_R ci = M'.1.cls) (hstk : as.reverse ++ .ref o :: st = stk) (hn : as.length = na) (hrest : (st.map fun v => v.category).sum ≤ 8)
    (kk : z_U Cx Qx M (d + 1) mc ms rc rs (pc + 3) lv (v :: st) X2) : z_U Cx Qx M (d + 1) mc ms rc rs pc lv stk X := zu_callV hd hl hsp hk hci hstk hn hrest ⟨by omega, by omega⟩ kk
end U29
section U30
variable {Cx : z_CT} {Qx : z_QT}
variable {M M' : z_M} {d mc ms rc rs rc' rs' mc' ms' : Nat} {r : Option Value} {v : Value} {X X1 X2 : z_X} {pc : Nat} {lv : List (Option Value)} {st stk : List Value} {idx na : Nat} {as : List Value} {o ci : Nat}
theorem zu_cS1 (hd : decode M.2.1 pc = .ok (.invokestatic idx, 3)) (hl : z_lS M.1.cls idx M' na) (hsp : z_MV M' d 0 0 as X (some v) X2) (hstk : as.reverse ++ st = stk) (hn : as.length = na) (hrest : (st.map fun v => v.category).sum ≤ 8)
    (kk : z_U Cx Qx M (d + 1) mc ms rc rs (pc + 3) lv (v :: st) X2) : z_U Cx Qx M (d + 1) mc ms rc rs pc lv stk X := zu_callS hd hl hsp hstk hn hrest ⟨by omega, by omega⟩ kk
end U30
section U31
variable {Cx : z_CT} {Qx : z_QT}
theorem zu_Vx {M : z_M} {d mc ms rc rs : Nat} {n : Nat} {ρ : Nat → Nat → Option Nat} {σ σ' : Nat → Nat → Int32} {τ : Nat → Nat → Int64} {pc : Nat} {lv : List (Option Value)} {st : List Value} (h : σ' = σ) (k : z_U Cx Qx M d mc ms rc rs pc lv st (n, ρ, σ', τ)) : z_U Cx Qx M d mc ms rc rs pc lv st (n, ρ, σ, τ) := h ▸ k
end U31
