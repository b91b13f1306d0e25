/-! PART 42: TraceTierModel: does in one, interpret, turn -/
def dsO (σ : Nat → Nat → Int32) (k op e : Nat) : Int32 × (Nat → Nat → Int32) :=
  if op = 0 then (nI (k + 1), rpu σ e (σ 94 k))
  else if op = 1 then (nI (k + 1), rpu σ e (σ 96 (tN (σ 94 k))))
  else if op = 2 then (nI (k + 1), z_up (rpo σ (e - 1)) 96 (tN (σ 94 k)) (σ 97 (e - 1)))
  else if op ≤ 8 then (nI (k + 1), rpu (rpo (rpo σ (e - 1)) (e - 2)) (e - 2) (wk op (σ 97 (e - 2)) (σ 97 (e - 1))))
  else if op = 9 then (nI (k + 1), rpu σ e (σ 97 (e - 1)))
  else if op = 10 then (nI (k + 1), rpo σ (e - 1))
  else if op = 11 then (nI (k + 1), rpu (rpu (rpo (rpo σ (e - 1)) (e - 2)) (e - 2) (σ 97 (e - 1))) (e - 1) (σ 97 (e - 2)))
  else if op = 12 then (nI (k + 1), rgv (rpo σ (e - 1)) (σ 97 (e - 1)))
  else if op = 13 then (σ 94 k, σ)
  else if op = 14 then (if σ 97 (e - 1) = 0 then nI (k + 1) else σ 94 k, rpo σ (e - 1))
  else (-1, σ)
def dsS (σ : Nat → Nat → Int32) (k : Nat) : Int32 × (Nat → Nat → Int32) := dsO σ k (tN (σ 93 k)) (tN (σ 92 9))
def dsOK (σ : Nat → Nat → Int32) (k : Nat) : Prop := k < 40 ∧ ∃ op e : Nat, σ 93 k = nI op ∧ op < 16 ∧ σ 92 9 = nI e ∧ tk op ≤ e ∧ e ≤ 6 ∧ e - tk op + gv op ≤ 6 ∧ ((op = 1 ∨ op = 2) → ∃ l, l < 6 ∧ σ 94 k = nI l)
set_option maxHeartbeats 4000000 in
theorem sp_does {d : Nat} {σ : Nat → Nat → Int32} {τ : Nat → Nat → Int64} {k : Nat} (hok : dsOK σ k) : z_MV M_X11_does (d + 1) 0 0 [.ref 92, .int (nI k)] (124, z_r0, σ, τ) (some (.int (dsS σ k).1)) (124, z_r0, (dsS σ k).2, τ) := by
  obtain ⟨hk, op, e, hop, h16, he, htk, he6, hgv, hx⟩ := hok
  unfold dsS
  rw [hop, he, tN_nI (by omega), tN_nI (by omega)]
  have one : 1 ≤ tk op → ∃ e', e = e' + 1 := fun h => ⟨e - 1, by omega⟩
  have two : 2 ≤ tk op → ∃ e', e = e' + 2 := fun h => ⟨e - 2, by omega⟩
  rcases (show op = 0 ∨ op = 1 ∨ op = 2 ∨ op = 3 ∨ op = 4 ∨ op = 5 ∨ op = 6 ∨ op = 7 ∨ op = 8 ∨ op = 9 ∨ op = 10 ∨ op = 11 ∨ op = 12 ∨ op = 13 ∨ op = 14 ∨ op = 15 by omega) with rfl | rfl | rfl | rfl | rfl | rfl | rfl | rfl | rfl | rfl | rfl | rfl | rfl | rfl | rfl | rfl
  · exact sp_ds0 hk hop he (by omega)
  · obtain ⟨l, hl6, hxl⟩ := hx (Or.inl rfl)
    have e1 : dsO σ k 1 e = (nI (k + 1), rpu σ e (σ 96 l)) := by unfold dsO; rw [hxl, tN_nI (by omega)]; rfl
    rw [e1]
    exact sp_ds1 hk hop he (by omega) hxl hl6
  · obtain ⟨l, hl6, hxl⟩ := hx (Or.inr rfl)
    obtain ⟨e', rfl⟩ := one (by decide)
    have e1 : dsO σ k 2 (e' + 1) = (nI (k + 1), z_up (rpo σ e') 96 l (σ 97 e')) := by unfold dsO; rw [hxl, tN_nI (by omega)]; rfl
    rw [e1]
    exact sp_ds2 hk hop he (by omega) hxl hl6
  · obtain ⟨e', rfl⟩ := two (by decide)
    exact sp_ds3 hk hop he (by omega)
  · obtain ⟨e', rfl⟩ := two (by decide)
    exact sp_ds4 hk hop he (by omega)
  · obtain ⟨e', rfl⟩ := two (by decide)
    exact sp_ds5 hk hop he (by omega)
  · obtain ⟨e', rfl⟩ := two (by decide)
    exact sp_ds6 hk hop he (by omega)
  · obtain ⟨e', rfl⟩ := two (by decide)
    exact sp_ds7 hk hop he (by omega)
  · obtain ⟨e', rfl⟩ := two (by decide)
    exact sp_ds8 hk hop he (by omega)
  · obtain ⟨e', rfl⟩ := one (by decide)
    exact sp_ds9 hk hop he (by omega)
  · obtain ⟨e', rfl⟩ := one (by decide)
    exact sp_ds10 hk hop he (by omega)
  · obtain ⟨e', rfl⟩ := two (by decide)
    exact sp_ds11 hk hop he (by omega)
  · obtain ⟨e', rfl⟩ := one (by decide)
    exact sp_ds12 hk hop he (by omega)
  · exact sp_ds13 (e := e) hk hop
  · obtain ⟨e', rfl⟩ := one (by decide)
    exact sp_ds14 hk hop he (by omega)
  · exact sp_ds15 (e := e) hk hop
theorem rpu_ne {σ : Nat → Nat → Int32} {e b : Nat} {x : Int32} (h : b ≠ 97 ∧ b ≠ 92) : rpu σ e x b = σ b := by
  unfold rpu
  rw [z_up_ne _ _ _ h.2, z_up_ne _ _ _ h.1]
theorem rpo_ne {σ : Nat → Nat → Int32} {e b : Nat} (h : b ≠ 92) : rpo σ e b = σ b := z_up_ne _ _ _ h
theorem rgv_ne {σ : Nat → Nat → Int32} {b : Nat} {x : Int32} (h : b ≠ 98 ∧ b ≠ 92) : rgv σ x b = σ b := by
  unfold rgv
  rw [z_up_ne _ _ _ h.2, z_up_ne _ _ _ h.1]
  simp [shf, z_row, h.1]
/-- does changes nothing but locals, stack, given, and of the object depth and outs -/
theorem dsS_ne {σ : Nat → Nat → Int32} {k b : Nat} (h : b ≠ 96 ∧ b ≠ 97 ∧ b ≠ 98 ∧ b ≠ 92) : (dsS σ k).2 b = σ b := by
  unfold dsS dsO
  have e1 : ∀ {σ : Nat → Nat → Int32} {e : Nat} {x : Int32}, rpu σ e x b = σ b := rpu_ne ⟨h.2.1, h.2.2.2⟩
  have e2 : ∀ {σ : Nat → Nat → Int32} {e : Nat}, rpo σ e b = σ b := rpo_ne h.2.2.2
  have e3 : ∀ {σ : Nat → Nat → Int32} {x : Int32}, rgv σ x b = σ b := rgv_ne ⟨h.2.2.1, h.2.2.2⟩
  repeat (first | (split; · first | (show rpu _ _ _ b = _; simp only [e1, e2]; done) | (show z_up _ _ _ _ b = _; rw [z_up_ne _ _ _ h.1, e2]; done) | (show rpo _ _ b = _; rw [e2]; done) | (show rgv _ _ b = _; rw [e3, e2]; done) | rfl) | rfl)
theorem dsS_92 {σ : Nat → Nat → Int32} {k j : Nat} (h : j ≠ 9 ∧ j ≠ 11) : (dsS σ k).2 92 j = σ 92 j := by
  unfold dsS dsO
  have e1 : ∀ {σ : Nat → Nat → Int32} {e : Nat} {x : Int32}, rpu σ e x 92 j = σ 92 j := fun {σ e x} => by
    unfold rpu; rw [z_up_o _ _ (Or.inr h.1), z_up_o _ _ (Or.inl (by decide))]
  have e2 : ∀ {σ : Nat → Nat → Int32} {e : Nat}, rpo σ e 92 j = σ 92 j := fun {σ e} => z_up_o _ _ (Or.inr h.1)
  have e3 : ∀ {σ : Nat → Nat → Int32} {x : Int32}, rgv σ x 92 j = σ 92 j := fun {σ x} => by
    unfold rgv; rw [z_up_o _ _ (Or.inr h.2), z_up_o _ _ (Or.inl (by decide))]; simp [shf, z_row]
  repeat (first | (split; · first | (show rpu _ _ _ 92 j = _; simp only [e1, e2]; done) | (show z_up _ _ _ _ 92 j = _; rw [z_up_o _ _ (Or.inl (by decide)), e2]; done) | (show rpo _ _ 92 j = _; rw [e2]; done) | (show rgv _ _ 92 j = _; rw [e3, e2]; done) | rfl) | rfl)
/-- GOTO, or IF with another number than 0 on top -/
def tkn (σ : Nat → Nat → Int32) (k : Nat) : Int32 := b2i (σ 93 k = nI 13 ∨ (σ 93 k = nI 14 ∧ ¬ σ 97 (tN (σ 92 9) - 1) = 0))
def riT (σ : Nat → Nat → Int32) (k : Nat) : Nat → Nat → Int32 := z_up (z_up (dsS σ k).2 92 31 (σ 92 31 + 1)) 92 20 (-1)
def riA (σ : Nat → Nat → Int32) (k : Nat) : Nat → Nat → Int32 := z_up (riT σ k) 92 7 (dsS σ k).1
def riN (σ : Nat → Nat → Int32) (k e : Nat) : Nat → Nat → Int32 := z_up (z_up (z_up (riT σ k) 101 e (nI k)) 102 e (tkn σ k)) 92 16 (nI (e + 1))
set_option maxRecDepth 100000 in
set_option maxHeartbeats 4000000 in
theorem sp_ri_no {d : Nat} {σ : Nat → Nat → Int32} {τ : Nat → Nat → Int64} {k : Nat} (ha : σ 92 7 = nI k) (hok : dsOK σ k) (hif : σ 93 k = nI 14 → ∃ e, e < 8 ∧ σ 92 9 = nI (e + 1)) (hrn : σ 92 15 < 0) (hno : tkn σ k = 0 ∨ ¬ (dsS σ k).1 ≤ nI k) : z_MV M_X11_interpret (d + 3) 0 0 [.ref 92] (124, z_r0, σ, τ) (none) (124, z_r0, riA σ k, τ) := by
  refine z_MV.of pn_X11_interpret (Nat.le_of_ble_eq_true rfl) (by simp [Value.category]) rfl ?_
  show z_V _ _ _ _ _ _ _ _ _ [_, _, _, _, _] _ _
  have hk40 := hok.1
  refine z_aload_n dX11_interpret_0 rfl rfl ?_
  refine z_getI dX11_interpret_1 fl_X11_19 rfl rfl ha ?_
  refine z_istore_n dX11_interpret_4 rfl (by decide) ?_
  show z_V _ _ _ _ _ _ _ _ _ [_, _, _, _, _] _ _
  refine z_aload_n dX11_interpret_5 rfl rfl ?_
  refine z_getI dX11_interpret_6 fl_X11_38 rfl rfl rfl ?_
  refine z_if_lt (tgt := 16) dX11_interpret_9 (by decide) (fun _ => ?_) (fun c_ => absurd (hrn) c_)
  refine z_iconst (v := 0) dX11_interpret_16 (by decide) ?_
  refine z_istore_n dX11_interpret_17 rfl (by decide) ?_
  show z_V _ _ _ _ _ _ _ _ _ [_, _, _, _, _] _ _
  refine z_aload_n dX11_interpret_18 rfl rfl ?_
  refine z_getR dX11_interpret_19 fl_X11_7 rfl rfl rfl ?_
  refine z_iload_n dX11_interpret_22 rfl rfl ?_
  refine z_iald dX11_interpret_23 rfl rfl (by omega) rfl ?_
  refine z_bipush (v := nI 13) dX11_interpret_24 (by decide) ?_
  refine z_icmp_eq (tgt := 54) dX11_interpret_26 (by decide) (fun c26 => ?_) (fun c26 => ?_)
  · refine z_iconst (v := 1) dX11_interpret_54 (by decide) ?_
    refine z_goto (tgt := 59) dX11_interpret_55 (by decide) ?_
    refine z_istore_n dX11_interpret_59 rfl (by decide) ?_
    show z_V _ _ _ _ _ _ _ _ _ [_, _, _, _, _] _ _
    have htk : tkn σ k = 1 := b2i_t (Or.inl c26)
    refine z_aload_n dX11_interpret_60 rfl rfl ?_
    refine z_iload_n dX11_interpret_61 rfl rfl ?_
    refine z_cV1 dX11_interpret_62 ml_X11_188 (sp_does hok) rfl ⟨by decide, rfl⟩ rfl rfl (Nat.le_of_ble_eq_true rfl) ?_
    refine z_istore dX11_interpret_65 (by decide) ?_
    show z_V _ _ _ _ _ _ _ _ _ [_, _, _, _, _] _ _
    refine z_aload_n dX11_interpret_67 rfl rfl ?_
    refine z_dup dX11_interpret_68 rfl ?_
    refine z_getI dX11_interpret_69 fl_X11_148 rfl rfl (show _ = σ 92 31 from dsS_92 (by decide)) ?_
    refine z_iconst (v := 1) dX11_interpret_72 (by decide) ?_
    refine z_iadd dX11_interpret_73 rfl ?_
    refine z_putI dX11_interpret_74 fl_X11_148 rfl rfl (Or.inl rfl) rfl ?_
    refine z_aload_n dX11_interpret_77 rfl rfl ?_
    refine z_iconst (v := (-1)) dX11_interpret_78 (by decide) ?_
    refine z_putI dX11_interpret_79 fl_X11_48 rfl rfl (Or.inl rfl) rfl ?_
    refine z_iload_n dX11_interpret_82 rfl rfl ?_
    refine z_if_eq (tgt := 130) dX11_interpret_83 (by decide) (fun _ => ?_) (fun c_ => absurd (by decide +kernel) c_)
    refine z_aload_n dX11_interpret_130 rfl rfl ?_
    refine z_iload dX11_interpret_131 rfl ?_
    refine z_putI dX11_interpret_133 fl_X11_19 rfl rfl (Or.inl rfl) rfl ?_
    refine z_iload_n dX11_interpret_136 rfl rfl ?_
    refine z_if_eq (tgt := 152) dX11_interpret_137 (by decide) (fun c_ => absurd c_ (by decide +kernel)) (fun _ => ?_)
    refine z_iload dX11_interpret_140 rfl ?_
    refine z_iload_n dX11_interpret_142 rfl rfl ?_
    refine z_icmp_gt (tgt := 152) dX11_interpret_143 (by decide) (fun c143 => ?_) (fun c143 => ?_)
    · refine z_iload_n dX11_interpret_152 rfl rfl ?_
      refine z_if_eq (tgt := 176) dX11_interpret_153 (by decide) (fun _ => ?_) (fun c_ => absurd (by decide +kernel) c_)
      exact z_vret dX11_interpret_176 rfl rfl rfl
    · exact absurd hno (fun z => z.elim (fun y => by rw [y] at htk; exact absurd htk (by decide)) (fun y => y (Int32.not_lt.mp c143)))
  · refine z_aload_n dX11_interpret_29 rfl rfl ?_
    refine z_getR dX11_interpret_30 fl_X11_7 rfl rfl rfl ?_
    refine z_iload_n dX11_interpret_33 rfl rfl ?_
    refine z_iald dX11_interpret_34 rfl rfl (by omega) rfl ?_
    refine z_bipush (v := nI 14) dX11_interpret_35 (by decide) ?_
    refine z_icmp_ne (tgt := 58) dX11_interpret_37 (by decide) (fun c37 => ?_) (fun c37 => ?_)
    · refine z_iconst (v := 0) dX11_interpret_58 (by decide) ?_
      refine z_istore_n dX11_interpret_59 rfl (by decide) ?_
      show z_V _ _ _ _ _ _ _ _ _ [_, _, _, _, _] _ _
      have htk : tkn σ k = 0 := b2i_f (fun z => z.elim c26 (fun y => c37 y.1))
      refine z_aload_n dX11_interpret_60 rfl rfl ?_
      refine z_iload_n dX11_interpret_61 rfl rfl ?_
      refine z_cV1 dX11_interpret_62 ml_X11_188 (sp_does hok) rfl ⟨by decide, rfl⟩ rfl rfl (Nat.le_of_ble_eq_true rfl) ?_
      refine z_istore dX11_interpret_65 (by decide) ?_
      show z_V _ _ _ _ _ _ _ _ _ [_, _, _, _, _] _ _
      refine z_aload_n dX11_interpret_67 rfl rfl ?_
      refine z_dup dX11_interpret_68 rfl ?_
      refine z_getI dX11_interpret_69 fl_X11_148 rfl rfl (show _ = σ 92 31 from dsS_92 (by decide)) ?_
      refine z_iconst (v := 1) dX11_interpret_72 (by decide) ?_
      refine z_iadd dX11_interpret_73 rfl ?_
      refine z_putI dX11_interpret_74 fl_X11_148 rfl rfl (Or.inl rfl) rfl ?_
      refine z_aload_n dX11_interpret_77 rfl rfl ?_
      refine z_iconst (v := (-1)) dX11_interpret_78 (by decide) ?_
      refine z_putI dX11_interpret_79 fl_X11_48 rfl rfl (Or.inl rfl) rfl ?_
      refine z_iload_n dX11_interpret_82 rfl rfl ?_
      refine z_if_eq (tgt := 130) dX11_interpret_83 (by decide) (fun _ => ?_) (fun c_ => absurd (by decide +kernel) c_)
      refine z_aload_n dX11_interpret_130 rfl rfl ?_
      refine z_iload dX11_interpret_131 rfl ?_
      refine z_putI dX11_interpret_133 fl_X11_19 rfl rfl (Or.inl rfl) rfl ?_
      refine z_iload_n dX11_interpret_136 rfl rfl ?_
      refine z_if_eq (tgt := 152) dX11_interpret_137 (by decide) (fun _ => ?_) (fun c_ => absurd (by decide +kernel) c_)
      refine z_iload_n dX11_interpret_152 rfl rfl ?_
      refine z_if_eq (tgt := 176) dX11_interpret_153 (by decide) (fun _ => ?_) (fun c_ => absurd (by decide +kernel) c_)
      exact z_vret dX11_interpret_176 rfl rfl rfl
    · obtain ⟨e, he8, he⟩ := hif c37
      refine z_aload_n dX11_interpret_40 rfl rfl ?_
      refine z_getR dX11_interpret_41 fl_X11_26 rfl rfl rfl ?_
      refine z_aload_n dX11_interpret_44 rfl rfl ?_
      refine z_getI dX11_interpret_45 fl_X11_139 rfl rfl he ?_
      refine z_iconst (v := 1) dX11_interpret_48 (by decide) ?_
      refine z_isub dX11_interpret_49 (nI_pred e) ?_
      refine z_iald dX11_interpret_50 rfl rfl (by omega) rfl ?_
      refine z_if_eq (tgt := 58) dX11_interpret_51 (by decide) (fun c51 => ?_) (fun c51 => ?_)
      · refine z_iconst (v := 0) dX11_interpret_58 (by decide) ?_
        refine z_istore_n dX11_interpret_59 rfl (by decide) ?_
        show z_V _ _ _ _ _ _ _ _ _ [_, _, _, _, _] _ _
        have htk : tkn σ k = 0 := b2i_f (fun z => z.elim c26 (fun y => y.2 (by rw [he, tN_nI (by omega)]; exact c51)))
        refine z_aload_n dX11_interpret_60 rfl rfl ?_
        refine z_iload_n dX11_interpret_61 rfl rfl ?_
        refine z_cV1 dX11_interpret_62 ml_X11_188 (sp_does hok) rfl ⟨by decide, rfl⟩ rfl rfl (Nat.le_of_ble_eq_true rfl) ?_
        refine z_istore dX11_interpret_65 (by decide) ?_
        show z_V _ _ _ _ _ _ _ _ _ [_, _, _, _, _] _ _
        refine z_aload_n dX11_interpret_67 rfl rfl ?_
        refine z_dup dX11_interpret_68 rfl ?_
        refine z_getI dX11_interpret_69 fl_X11_148 rfl rfl (show _ = σ 92 31 from dsS_92 (by decide)) ?_
        refine z_iconst (v := 1) dX11_interpret_72 (by decide) ?_
        refine z_iadd dX11_interpret_73 rfl ?_
        refine z_putI dX11_interpret_74 fl_X11_148 rfl rfl (Or.inl rfl) rfl ?_
        refine z_aload_n dX11_interpret_77 rfl rfl ?_
        refine z_iconst (v := (-1)) dX11_interpret_78 (by decide) ?_
        refine z_putI dX11_interpret_79 fl_X11_48 rfl rfl (Or.inl rfl) rfl ?_
        refine z_iload_n dX11_interpret_82 rfl rfl ?_
        refine z_if_eq (tgt := 130) dX11_interpret_83 (by decide) (fun _ => ?_) (fun c_ => absurd (by decide +kernel) c_)
        refine z_aload_n dX11_interpret_130 rfl rfl ?_
        refine z_iload dX11_interpret_131 rfl ?_
        refine z_putI dX11_interpret_133 fl_X11_19 rfl rfl (Or.inl rfl) rfl ?_
        refine z_iload_n dX11_interpret_136 rfl rfl ?_
        refine z_if_eq (tgt := 152) dX11_interpret_137 (by decide) (fun _ => ?_) (fun c_ => absurd (by decide +kernel) c_)
        refine z_iload_n dX11_interpret_152 rfl rfl ?_
        refine z_if_eq (tgt := 176) dX11_interpret_153 (by decide) (fun _ => ?_) (fun c_ => absurd (by decide +kernel) c_)
        exact z_vret dX11_interpret_176 rfl rfl rfl
      · refine z_iconst (v := 1) dX11_interpret_54 (by decide) ?_
        refine z_goto (tgt := 59) dX11_interpret_55 (by decide) ?_
        refine z_istore_n dX11_interpret_59 rfl (by decide) ?_
        show z_V _ _ _ _ _ _ _ _ _ [_, _, _, _, _] _ _
        have htk : tkn σ k = 1 := b2i_t (Or.inr ⟨c37, by rw [he, tN_nI (by omega)]; exact c51⟩)
        refine z_aload_n dX11_interpret_60 rfl rfl ?_
        refine z_iload_n dX11_interpret_61 rfl rfl ?_
        refine z_cV1 dX11_interpret_62 ml_X11_188 (sp_does hok) rfl ⟨by decide, rfl⟩ rfl rfl (Nat.le_of_ble_eq_true rfl) ?_
        refine z_istore dX11_interpret_65 (by decide) ?_
        show z_V _ _ _ _ _ _ _ _ _ [_, _, _, _, _] _ _
        refine z_aload_n dX11_interpret_67 rfl rfl ?_
        refine z_dup dX11_interpret_68 rfl ?_
        refine z_getI dX11_interpret_69 fl_X11_148 rfl rfl (show _ = σ 92 31 from dsS_92 (by decide)) ?_
        refine z_iconst (v := 1) dX11_interpret_72 (by decide) ?_
        refine z_iadd dX11_interpret_73 rfl ?_
        refine z_putI dX11_interpret_74 fl_X11_148 rfl rfl (Or.inl rfl) rfl ?_
        refine z_aload_n dX11_interpret_77 rfl rfl ?_
        refine z_iconst (v := (-1)) dX11_interpret_78 (by decide) ?_
        refine z_putI dX11_interpret_79 fl_X11_48 rfl rfl (Or.inl rfl) rfl ?_
        refine z_iload_n dX11_interpret_82 rfl rfl ?_
        refine z_if_eq (tgt := 130) dX11_interpret_83 (by decide) (fun _ => ?_) (fun c_ => absurd (by decide +kernel) c_)
        refine z_aload_n dX11_interpret_130 rfl rfl ?_
        refine z_iload dX11_interpret_131 rfl ?_
        refine z_putI dX11_interpret_133 fl_X11_19 rfl rfl (Or.inl rfl) rfl ?_
        refine z_iload_n dX11_interpret_136 rfl rfl ?_
        refine z_if_eq (tgt := 152) dX11_interpret_137 (by decide) (fun c_ => absurd c_ (by decide +kernel)) (fun _ => ?_)
        refine z_iload dX11_interpret_140 rfl ?_
        refine z_iload_n dX11_interpret_142 rfl rfl ?_
        refine z_icmp_gt (tgt := 152) dX11_interpret_143 (by decide) (fun c143 => ?_) (fun c143 => ?_)
        · refine z_iload_n dX11_interpret_152 rfl rfl ?_
          refine z_if_eq (tgt := 176) dX11_interpret_153 (by decide) (fun _ => ?_) (fun c_ => absurd (by decide +kernel) c_)
          exact z_vret dX11_interpret_176 rfl rfl rfl
        · exact absurd hno (fun z => z.elim (fun y => by rw [y] at htk; exact absurd htk (by decide)) (fun y => y (Int32.not_lt.mp c143)))
set_option maxRecDepth 100000 in
set_option maxHeartbeats 4000000 in
theorem sp_ri_hot {d : Nat} {σ : Nat → Nat → Int32} {τ : Nat → Nat → Int64} {k : Nat} (ha : σ 92 7 = nI k) (hok : dsOK σ k) (hif : σ 93 k = nI 14 → ∃ e, e < 8 ∧ σ 92 9 = nI (e + 1)) {q : Nat} (hrn : σ 92 15 < 0) (ht1 : tkn σ k = 1) (hq : (dsS σ k).1 = nI q) (hqk : q ≤ k) : z_MV M_X11_interpret (d + 3) 0 0 [.ref 92] (124, z_r0, σ, τ) (none) (124, z_r0, htS (riA σ k) q, τ) := by
  refine z_MV.of pn_X11_interpret (Nat.le_of_ble_eq_true rfl) (by simp [Value.category]) rfl ?_
  show z_V _ _ _ _ _ _ _ _ _ [_, _, _, _, _] _ _
  have hk40 := hok.1
  refine z_aload_n dX11_interpret_0 rfl rfl ?_
  refine z_getI dX11_interpret_1 fl_X11_19 rfl rfl ha ?_
  refine z_istore_n dX11_interpret_4 rfl (by decide) ?_
  show z_V _ _ _ _ _ _ _ _ _ [_, _, _, _, _] _ _
  refine z_aload_n dX11_interpret_5 rfl rfl ?_
  refine z_getI dX11_interpret_6 fl_X11_38 rfl rfl rfl ?_
  refine z_if_lt (tgt := 16) dX11_interpret_9 (by decide) (fun _ => ?_) (fun c_ => absurd (hrn) c_)
  refine z_iconst (v := 0) dX11_interpret_16 (by decide) ?_
  refine z_istore_n dX11_interpret_17 rfl (by decide) ?_
  show z_V _ _ _ _ _ _ _ _ _ [_, _, _, _, _] _ _
  refine z_aload_n dX11_interpret_18 rfl rfl ?_
  refine z_getR dX11_interpret_19 fl_X11_7 rfl rfl rfl ?_
  refine z_iload_n dX11_interpret_22 rfl rfl ?_
  refine z_iald dX11_interpret_23 rfl rfl (by omega) rfl ?_
  refine z_bipush (v := nI 13) dX11_interpret_24 (by decide) ?_
  refine z_icmp_eq (tgt := 54) dX11_interpret_26 (by decide) (fun c26 => ?_) (fun c26 => ?_)
  · refine z_iconst (v := 1) dX11_interpret_54 (by decide) ?_
    refine z_goto (tgt := 59) dX11_interpret_55 (by decide) ?_
    refine z_istore_n dX11_interpret_59 rfl (by decide) ?_
    show z_V _ _ _ _ _ _ _ _ _ [_, _, _, _, _] _ _
    have htk : tkn σ k = 1 := b2i_t (Or.inl c26)
    refine z_aload_n dX11_interpret_60 rfl rfl ?_
    refine z_iload_n dX11_interpret_61 rfl rfl ?_
    refine z_cV1 dX11_interpret_62 ml_X11_188 (sp_does hok) rfl ⟨by decide, rfl⟩ rfl rfl (Nat.le_of_ble_eq_true rfl) ?_
    rw [hq]
    refine z_istore dX11_interpret_65 (by decide) ?_
    show z_V _ _ _ _ _ _ _ _ _ [_, _, _, _, _] _ _
    refine z_aload_n dX11_interpret_67 rfl rfl ?_
    refine z_dup dX11_interpret_68 rfl ?_
    refine z_getI dX11_interpret_69 fl_X11_148 rfl rfl (show _ = σ 92 31 from dsS_92 (by decide)) ?_
    refine z_iconst (v := 1) dX11_interpret_72 (by decide) ?_
    refine z_iadd dX11_interpret_73 rfl ?_
    refine z_putI dX11_interpret_74 fl_X11_148 rfl rfl (Or.inl rfl) rfl ?_
    refine z_aload_n dX11_interpret_77 rfl rfl ?_
    refine z_iconst (v := (-1)) dX11_interpret_78 (by decide) ?_
    refine z_putI dX11_interpret_79 fl_X11_48 rfl rfl (Or.inl rfl) rfl ?_
    refine z_iload_n dX11_interpret_82 rfl rfl ?_
    refine z_if_eq (tgt := 130) dX11_interpret_83 (by decide) (fun _ => ?_) (fun c_ => absurd (by decide +kernel) c_)
    refine z_aload_n dX11_interpret_130 rfl rfl ?_
    refine z_iload dX11_interpret_131 rfl ?_
    refine z_putI dX11_interpret_133 fl_X11_19 rfl rfl (Or.inl rfl) rfl ?_
    refine z_iload_n dX11_interpret_136 rfl rfl ?_
    refine z_if_eq (tgt := 152) dX11_interpret_137 (by decide) (fun c_ => absurd c_ (by decide +kernel)) (fun _ => ?_)
    refine z_iload dX11_interpret_140 rfl ?_
    refine z_iload_n dX11_interpret_142 rfl rfl ?_
    refine z_icmp_gt (tgt := 152) dX11_interpret_143 (by decide) (fun c_ => absurd c_ (fun z => absurd (nI_le hqk (by omega)) (Int32.not_le.mpr z))) (fun _ => ?_)
    refine z_aload_n dX11_interpret_146 rfl rfl ?_
    refine z_iload dX11_interpret_147 rfl ?_
    refine z_cV0 dX11_interpret_149 ml_X11_194 (sp_hot (p := q) (by omega)) rfl ⟨by decide, rfl⟩ rfl rfl (Nat.le_of_ble_eq_true rfl) ?_
    refine z_iload_n dX11_interpret_152 rfl rfl ?_
    refine z_if_eq (tgt := 176) dX11_interpret_153 (by decide) (fun _ => ?_) (fun c_ => absurd (by decide +kernel) c_)
    exact z_vret dX11_interpret_176 rfl rfl (by first | (simp only [riA, riT, hq]; done) | (rw [ht1] at htk; exact absurd htk (by decide)))
  · refine z_aload_n dX11_interpret_29 rfl rfl ?_
    refine z_getR dX11_interpret_30 fl_X11_7 rfl rfl rfl ?_
    refine z_iload_n dX11_interpret_33 rfl rfl ?_
    refine z_iald dX11_interpret_34 rfl rfl (by omega) rfl ?_
    refine z_bipush (v := nI 14) dX11_interpret_35 (by decide) ?_
    refine z_icmp_ne (tgt := 58) dX11_interpret_37 (by decide) (fun c37 => ?_) (fun c37 => ?_)
    · refine z_iconst (v := 0) dX11_interpret_58 (by decide) ?_
      refine z_istore_n dX11_interpret_59 rfl (by decide) ?_
      show z_V _ _ _ _ _ _ _ _ _ [_, _, _, _, _] _ _
      have htk : tkn σ k = 0 := b2i_f (fun z => z.elim c26 (fun y => c37 y.1))
      refine z_aload_n dX11_interpret_60 rfl rfl ?_
      refine z_iload_n dX11_interpret_61 rfl rfl ?_
      refine z_cV1 dX11_interpret_62 ml_X11_188 (sp_does hok) rfl ⟨by decide, rfl⟩ rfl rfl (Nat.le_of_ble_eq_true rfl) ?_
      rw [hq]
      refine z_istore dX11_interpret_65 (by decide) ?_
      show z_V _ _ _ _ _ _ _ _ _ [_, _, _, _, _] _ _
      refine z_aload_n dX11_interpret_67 rfl rfl ?_
      refine z_dup dX11_interpret_68 rfl ?_
      refine z_getI dX11_interpret_69 fl_X11_148 rfl rfl (show _ = σ 92 31 from dsS_92 (by decide)) ?_
      refine z_iconst (v := 1) dX11_interpret_72 (by decide) ?_
      refine z_iadd dX11_interpret_73 rfl ?_
      refine z_putI dX11_interpret_74 fl_X11_148 rfl rfl (Or.inl rfl) rfl ?_
      refine z_aload_n dX11_interpret_77 rfl rfl ?_
      refine z_iconst (v := (-1)) dX11_interpret_78 (by decide) ?_
      refine z_putI dX11_interpret_79 fl_X11_48 rfl rfl (Or.inl rfl) rfl ?_
      refine z_iload_n dX11_interpret_82 rfl rfl ?_
      refine z_if_eq (tgt := 130) dX11_interpret_83 (by decide) (fun _ => ?_) (fun c_ => absurd (by decide +kernel) c_)
      refine z_aload_n dX11_interpret_130 rfl rfl ?_
      refine z_iload dX11_interpret_131 rfl ?_
      refine z_putI dX11_interpret_133 fl_X11_19 rfl rfl (Or.inl rfl) rfl ?_
      refine z_iload_n dX11_interpret_136 rfl rfl ?_
      refine z_if_eq (tgt := 152) dX11_interpret_137 (by decide) (fun _ => ?_) (fun c_ => absurd (by decide +kernel) c_)
      refine z_iload_n dX11_interpret_152 rfl rfl ?_
      refine z_if_eq (tgt := 176) dX11_interpret_153 (by decide) (fun _ => ?_) (fun c_ => absurd (by decide +kernel) c_)
      exact z_vret dX11_interpret_176 rfl rfl (by first | (simp only [riA, riT, hq]; done) | (rw [ht1] at htk; exact absurd htk (by decide)))
    · obtain ⟨e, he8, he⟩ := hif c37
      refine z_aload_n dX11_interpret_40 rfl rfl ?_
      refine z_getR dX11_interpret_41 fl_X11_26 rfl rfl rfl ?_
      refine z_aload_n dX11_interpret_44 rfl rfl ?_
      refine z_getI dX11_interpret_45 fl_X11_139 rfl rfl he ?_
      refine z_iconst (v := 1) dX11_interpret_48 (by decide) ?_
      refine z_isub dX11_interpret_49 (nI_pred e) ?_
      refine z_iald dX11_interpret_50 rfl rfl (by omega) rfl ?_
      refine z_if_eq (tgt := 58) dX11_interpret_51 (by decide) (fun c51 => ?_) (fun c51 => ?_)
      · refine z_iconst (v := 0) dX11_interpret_58 (by decide) ?_
        refine z_istore_n dX11_interpret_59 rfl (by decide) ?_
        show z_V _ _ _ _ _ _ _ _ _ [_, _, _, _, _] _ _
        have htk : tkn σ k = 0 := b2i_f (fun z => z.elim c26 (fun y => y.2 (by rw [he, tN_nI (by omega)]; exact c51)))
        refine z_aload_n dX11_interpret_60 rfl rfl ?_
        refine z_iload_n dX11_interpret_61 rfl rfl ?_
        refine z_cV1 dX11_interpret_62 ml_X11_188 (sp_does hok) rfl ⟨by decide, rfl⟩ rfl rfl (Nat.le_of_ble_eq_true rfl) ?_
        rw [hq]
        refine z_istore dX11_interpret_65 (by decide) ?_
        show z_V _ _ _ _ _ _ _ _ _ [_, _, _, _, _] _ _
        refine z_aload_n dX11_interpret_67 rfl rfl ?_
        refine z_dup dX11_interpret_68 rfl ?_
        refine z_getI dX11_interpret_69 fl_X11_148 rfl rfl (show _ = σ 92 31 from dsS_92 (by decide)) ?_
        refine z_iconst (v := 1) dX11_interpret_72 (by decide) ?_
        refine z_iadd dX11_interpret_73 rfl ?_
        refine z_putI dX11_interpret_74 fl_X11_148 rfl rfl (Or.inl rfl) rfl ?_
        refine z_aload_n dX11_interpret_77 rfl rfl ?_
        refine z_iconst (v := (-1)) dX11_interpret_78 (by decide) ?_
        refine z_putI dX11_interpret_79 fl_X11_48 rfl rfl (Or.inl rfl) rfl ?_
        refine z_iload_n dX11_interpret_82 rfl rfl ?_
        refine z_if_eq (tgt := 130) dX11_interpret_83 (by decide) (fun _ => ?_) (fun c_ => absurd (by decide +kernel) c_)
        refine z_aload_n dX11_interpret_130 rfl rfl ?_
        refine z_iload dX11_interpret_131 rfl ?_
        refine z_putI dX11_interpret_133 fl_X11_19 rfl rfl (Or.inl rfl) rfl ?_
        refine z_iload_n dX11_interpret_136 rfl rfl ?_
        refine z_if_eq (tgt := 152) dX11_interpret_137 (by decide) (fun _ => ?_) (fun c_ => absurd (by decide +kernel) c_)
        refine z_iload_n dX11_interpret_152 rfl rfl ?_
        refine z_if_eq (tgt := 176) dX11_interpret_153 (by decide) (fun _ => ?_) (fun c_ => absurd (by decide +kernel) c_)
        exact z_vret dX11_interpret_176 rfl rfl (by first | (simp only [riA, riT, hq]; done) | (rw [ht1] at htk; exact absurd htk (by decide)))
      · refine z_iconst (v := 1) dX11_interpret_54 (by decide) ?_
        refine z_goto (tgt := 59) dX11_interpret_55 (by decide) ?_
        refine z_istore_n dX11_interpret_59 rfl (by decide) ?_
        show z_V _ _ _ _ _ _ _ _ _ [_, _, _, _, _] _ _
        have htk : tkn σ k = 1 := b2i_t (Or.inr ⟨c37, by rw [he, tN_nI (by omega)]; exact c51⟩)
        refine z_aload_n dX11_interpret_60 rfl rfl ?_
        refine z_iload_n dX11_interpret_61 rfl rfl ?_
        refine z_cV1 dX11_interpret_62 ml_X11_188 (sp_does hok) rfl ⟨by decide, rfl⟩ rfl rfl (Nat.le_of_ble_eq_true rfl) ?_
        rw [hq]
        refine z_istore dX11_interpret_65 (by decide) ?_
        show z_V _ _ _ _ _ _ _ _ _ [_, _, _, _, _] _ _
        refine z_aload_n dX11_interpret_67 rfl rfl ?_
        refine z_dup dX11_interpret_68 rfl ?_
        refine z_getI dX11_interpret_69 fl_X11_148 rfl rfl (show _ = σ 92 31 from dsS_92 (by decide)) ?_
        refine z_iconst (v := 1) dX11_interpret_72 (by decide) ?_
        refine z_iadd dX11_interpret_73 rfl ?_
        refine z_putI dX11_interpret_74 fl_X11_148 rfl rfl (Or.inl rfl) rfl ?_
        refine z_aload_n dX11_interpret_77 rfl rfl ?_
        refine z_iconst (v := (-1)) dX11_interpret_78 (by decide) ?_
        refine z_putI dX11_interpret_79 fl_X11_48 rfl rfl (Or.inl rfl) rfl ?_
        refine z_iload_n dX11_interpret_82 rfl rfl ?_
        refine z_if_eq (tgt := 130) dX11_interpret_83 (by decide) (fun _ => ?_) (fun c_ => absurd (by decide +kernel) c_)
        refine z_aload_n dX11_interpret_130 rfl rfl ?_
        refine z_iload dX11_interpret_131 rfl ?_
        refine z_putI dX11_interpret_133 fl_X11_19 rfl rfl (Or.inl rfl) rfl ?_
        refine z_iload_n dX11_interpret_136 rfl rfl ?_
        refine z_if_eq (tgt := 152) dX11_interpret_137 (by decide) (fun c_ => absurd c_ (by decide +kernel)) (fun _ => ?_)
        refine z_iload dX11_interpret_140 rfl ?_
        refine z_iload_n dX11_interpret_142 rfl rfl ?_
        refine z_icmp_gt (tgt := 152) dX11_interpret_143 (by decide) (fun c_ => absurd c_ (fun z => absurd (nI_le hqk (by omega)) (Int32.not_le.mpr z))) (fun _ => ?_)
        refine z_aload_n dX11_interpret_146 rfl rfl ?_
        refine z_iload dX11_interpret_147 rfl ?_
        refine z_cV0 dX11_interpret_149 ml_X11_194 (sp_hot (p := q) (by omega)) rfl ⟨by decide, rfl⟩ rfl rfl (Nat.le_of_ble_eq_true rfl) ?_
        refine z_iload_n dX11_interpret_152 rfl rfl ?_
        refine z_if_eq (tgt := 176) dX11_interpret_153 (by decide) (fun _ => ?_) (fun c_ => absurd (by decide +kernel) c_)
        exact z_vret dX11_interpret_176 rfl rfl (by first | (simp only [riA, riT, hq]; done) | (rw [ht1] at htk; exact absurd htk (by decide)))
