/-! PART 95: the law: the switch, the end -/
theorem nI_and15 (x : Int32) : ∃ c, c < 16 ∧ x &&& nI 15 = nI c := by
  refine ⟨(x &&& nI 15).toUInt32.toNat, ?_, ?_⟩
  · have h : (x &&& nI 15).toUInt32.toNat = x.toUInt32.toNat &&& 15 := by
      show (x.toBitVec &&& (nI 15).toBitVec).toNat = x.toBitVec.toNat &&& 15
      rw [BitVec.toNat_and]
      rfl
    rw [h]
    have := Nat.and_le_right (n := x.toUInt32.toNat) (m := 15)
    omega
  · apply Int32.toBitVec_inj.mp
    show (x &&& nI 15).toBitVec = BitVec.ofNat 32 ((x &&& nI 15).toBitVec.toNat)
    rw [BitVec.ofNat_toNat, BitVec.setWidth_eq]
def lw_tgt (c : Nat) : Nat := ([96, 164, 267, 323, 336, 392, 448, 461, 517, 573, 641] : List Nat).getD c 709
theorem lw_switch {d : Nat} {Cx : z_CT} {Qx : z_QT} {b mc ms rc rs c : Nat} {lv : List (Option Value)} {X : z_X} (hc : c < 16) (kk : z_Y Cx Qx b M_L_law (d + 1) mc ms rc rs (lw_tgt c) lv [] X) : z_Y Cx Qx b M_L_law (d + 1) mc ms rc rs 39 lv [.int (nI c)] X := by
  rcases (show c = 0 ∨ c = 1 ∨ c = 2 ∨ c = 3 ∨ c = 4 ∨ c = 5 ∨ c = 6 ∨ c = 7 ∨ c = 8 ∨ c = 9 ∨ c = 10 ∨ c = 11 ∨ c = 12 ∨ c = 13 ∨ c = 14 ∨ c = 15 by omega) with rfl | rfl | rfl | rfl | rfl | rfl | rfl | rfl | rfl | rfl | rfl | rfl | rfl | rfl | rfl | rfl
  · exact zy_tableIn (off := 57) (tgt := 96) dL_law_39 (by decide) (by decide) (by decide) (by decide) kk
  · exact zy_tableIn (off := 125) (tgt := 164) dL_law_39 (by decide) (by decide) (by decide) (by decide) kk
  · exact zy_tableIn (off := 228) (tgt := 267) dL_law_39 (by decide) (by decide) (by decide) (by decide) kk
  · exact zy_tableIn (off := 284) (tgt := 323) dL_law_39 (by decide) (by decide) (by decide) (by decide) kk
  · exact zy_tableIn (off := 297) (tgt := 336) dL_law_39 (by decide) (by decide) (by decide) (by decide) kk
  · exact zy_tableIn (off := 353) (tgt := 392) dL_law_39 (by decide) (by decide) (by decide) (by decide) kk
  · exact zy_tableIn (off := 409) (tgt := 448) dL_law_39 (by decide) (by decide) (by decide) (by decide) kk
  · exact zy_tableIn (off := 422) (tgt := 461) dL_law_39 (by decide) (by decide) (by decide) (by decide) kk
  · exact zy_tableIn (off := 478) (tgt := 517) dL_law_39 (by decide) (by decide) (by decide) (by decide) kk
  · exact zy_tableIn (off := 534) (tgt := 573) dL_law_39 (by decide) (by decide) (by decide) (by decide) kk
  · exact zy_tableIn (off := 602) (tgt := 641) dL_law_39 (by decide) (by decide) (by decide) (by decide) kk
  · exact zy_tableOut (tgt := 709) dL_law_39 (by decide) (by decide) kk
  · exact zy_tableOut (tgt := 709) dL_law_39 (by decide) (by decide) kk
  · exact zy_tableOut (tgt := 709) dL_law_39 (by decide) (by decide) kk
  · exact zy_tableOut (tgt := 709) dL_law_39 (by decide) (by decide) kk
  · exact zy_tableOut (tgt := 709) dL_law_39 (by decide) (by decide) kk
theorem z_room {R R' : Room} {s : State} {pl : Platform} (hf : R'.frames ≤ R.frames) (hl : R'.locals ≤ R.locals) (hc : R'.cells ≤ R.cells) (hs : R'.slots ≤ R.slots) (h : s.hasRoom pl R = true) : s.hasRoom pl R' = true := by
  simp only [State.hasRoom, Bool.and_eq_true, decide_eq_true_eq] at h ⊢
  obtain ⟨⟨⟨⟨h1, h2, h3, h4, h5, h6⟩, h7⟩, h8⟩, h9⟩ := h
  refine ⟨⟨⟨⟨by omega, by omega, by omega, by omega, by omega, h6⟩, by omega⟩, by omega⟩, h9⟩
theorem W_room {p : Program} {l : Launch} {e : Env} {R R' : Room} {s : State} {m : MethodId} {args : Array Value} {below : List Frame} {meth : Method} {c : Code} {H : Heap} {locs : List Loc} {cells slots : Nat} {Q : State → Prop} {g : JFrame} (hf : R'.frames ≤ R.frames) (hl : R'.locals ≤ R.locals) (hc : R'.cells ≤ R.cells) (hs : R'.slots ≤ R.slots)
    (kk : W p l e R' s m args below meth c H locs cells slots Q g) : W p l e R s m args below meth c H locs cells slots Q g :=
  fun T hT X => kk T hT { X with room := z_room hf hl hc hs X.room }
