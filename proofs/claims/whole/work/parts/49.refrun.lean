/-! PART 49: TraceTierModel: add, run -/
def adG (o x : Int32) : Prop := (¬ o < 0 ∧ ¬ nI 15 < o) ∧ (o = 0 → ¬ x < -32768 ∧ ¬ nI 32767 < x) ∧ (o = 1 ∨ o = nI 2 → ¬ x < 0 ∧ ¬ nI 5 < x) ∧ (o = nI 13 ∨ o = nI 14 → ¬ x < 0 ∧ ¬ nI 39 < x)
def rad (σ : Nat → Nat → Int32) (n : Nat) (o x : Int32) : Nat → Nat → Int32 := z_up (z_up (z_up (z_up σ 92 0 0) 93 n o) 94 n x) 92 1 (nI (n + 1))
set_option maxRecDepth 100000 in
set_option maxHeartbeats 4000000 in
theorem rad_0 {d : Nat} {σ : Nat → Nat → Int32} {τ : Nat → Nat → Int64} {o x : Int32} {r : Option Value} {X1 : z_X} (K1 : adG o x → z_V M_X11_add (d + 1) 0 0 0 0 r X1 79 [some (.ref 92), some (.int o), some (.int x), some (.int 1)] [] (124, z_r0, z_up σ 92 0 0, τ)) (K0 : ¬ adG o x → z_V M_X11_add (d + 1) 0 0 0 0 r X1 79 [some (.ref 92), some (.int o), some (.int x), some (.int 0)] [] (124, z_r0, z_up σ 92 0 0, τ)) : z_V M_X11_add (d + 1) 0 0 0 0 r X1 0 [some (.ref 92), some (.int o), some (.int x), none] [] (124, z_r0, σ, τ) := by
  refine z_aload_n dX11_add_0 rfl rfl ?_
  refine z_iconst (v := 0) dX11_add_1 (by decide) ?_
  refine z_putI dX11_add_2 fl_X11_111 rfl rfl (Or.inl rfl) rfl ?_
  refine z_iload_n dX11_add_5 rfl rfl ?_
  refine z_iconst (v := 0) dX11_add_6 (by decide) ?_
  refine z_bipush (v := nI 15) dX11_add_7 (by decide) ?_
  refine z_cS1 dX11_add_9 ml_X11_114 (sp_within) rfl rfl (Nat.le_of_ble_eq_true rfl) ?_
  refine z_if_eq (tgt := 77) dX11_add_12 (by decide) (fun c12 => ?_) (fun c12 => ?_)
  · refine z_iconst (v := 0) dX11_add_77 (by decide) ?_
    refine z_istore_n dX11_add_78 rfl (by decide) ?_
    show z_V _ _ _ _ _ _ _ _ _ [_, _, _, _] _ _
    have hg : ¬ adG o x := by
      simp only [b2_e, Classical.not_not] at *
      unfold adG
      grind
    exact K0 hg
  · refine z_iload_n dX11_add_15 rfl rfl ?_
    refine z_if_ne (tgt := 32) dX11_add_16 (by decide) (fun c16 => ?_) (fun c16 => ?_)
    · refine z_iload_n dX11_add_32 rfl rfl ?_
      refine z_iconst (v := 1) dX11_add_33 (by decide) ?_
      refine z_icmp_eq (tgt := 42) dX11_add_34 (by decide) (fun c34 => ?_) (fun c34 => ?_)
      · refine z_iload_n dX11_add_42 rfl rfl ?_
        refine z_iconst (v := 0) dX11_add_43 (by decide) ?_
        refine z_iconst (v := nI 5) dX11_add_44 (by decide) ?_
        refine z_cS1 dX11_add_45 ml_X11_114 (sp_within) rfl rfl (Nat.le_of_ble_eq_true rfl) ?_
        refine z_if_eq (tgt := 77) dX11_add_48 (by decide) (fun c48 => ?_) (fun c48 => ?_)
        · refine z_iconst (v := 0) dX11_add_77 (by decide) ?_
          refine z_istore_n dX11_add_78 rfl (by decide) ?_
          show z_V _ _ _ _ _ _ _ _ _ [_, _, _, _] _ _
          have hg : ¬ adG o x := by
            simp only [b2_e, Classical.not_not] at *
            unfold adG
            grind
          exact K0 hg
        · refine z_iload_n dX11_add_51 rfl rfl ?_
          refine z_bipush (v := nI 13) dX11_add_52 (by decide) ?_
          refine z_icmp_eq (tgt := 63) dX11_add_54 (by decide) (fun c54 => ?_) (fun c54 => ?_)
          · refine z_iload_n dX11_add_63 rfl rfl ?_
            refine z_iconst (v := 0) dX11_add_64 (by decide) ?_
            refine z_bipush (v := nI 39) dX11_add_65 (by decide) ?_
            refine z_cS1 dX11_add_67 ml_X11_114 (sp_within) rfl rfl (Nat.le_of_ble_eq_true rfl) ?_
            refine z_if_eq (tgt := 77) dX11_add_70 (by decide) (fun c70 => ?_) (fun c70 => ?_)
            · refine z_iconst (v := 0) dX11_add_77 (by decide) ?_
              refine z_istore_n dX11_add_78 rfl (by decide) ?_
              show z_V _ _ _ _ _ _ _ _ _ [_, _, _, _] _ _
              have hg : ¬ adG o x := by
                simp only [b2_e, Classical.not_not] at *
                unfold adG
                grind
              exact K0 hg
            · refine z_iconst (v := 1) dX11_add_73 (by decide) ?_
              refine z_goto (tgt := 78) dX11_add_74 (by decide) ?_
              refine z_istore_n dX11_add_78 rfl (by decide) ?_
              show z_V _ _ _ _ _ _ _ _ _ [_, _, _, _] _ _
              have hg : adG o x := by
                simp only [b2_e, Classical.not_not] at *
                unfold adG
                grind
              exact K1 hg
          · refine z_iload_n dX11_add_57 rfl rfl ?_
            refine z_bipush (v := nI 14) dX11_add_58 (by decide) ?_
            refine z_icmp_ne (tgt := 73) dX11_add_60 (by decide) (fun c60 => ?_) (fun c60 => ?_)
            · refine z_iconst (v := 1) dX11_add_73 (by decide) ?_
              refine z_goto (tgt := 78) dX11_add_74 (by decide) ?_
              refine z_istore_n dX11_add_78 rfl (by decide) ?_
              show z_V _ _ _ _ _ _ _ _ _ [_, _, _, _] _ _
              have hg : adG o x := by
                simp only [b2_e, Classical.not_not] at *
                unfold adG
                grind
              exact K1 hg
            · refine z_iload_n dX11_add_63 rfl rfl ?_
              refine z_iconst (v := 0) dX11_add_64 (by decide) ?_
              refine z_bipush (v := nI 39) dX11_add_65 (by decide) ?_
              refine z_cS1 dX11_add_67 ml_X11_114 (sp_within) rfl rfl (Nat.le_of_ble_eq_true rfl) ?_
              refine z_if_eq (tgt := 77) dX11_add_70 (by decide) (fun c70 => ?_) (fun c70 => ?_)
              · refine z_iconst (v := 0) dX11_add_77 (by decide) ?_
                refine z_istore_n dX11_add_78 rfl (by decide) ?_
                show z_V _ _ _ _ _ _ _ _ _ [_, _, _, _] _ _
                have hg : ¬ adG o x := by
                  simp only [b2_e, Classical.not_not] at *
                  unfold adG
                  grind
                exact K0 hg
              · refine z_iconst (v := 1) dX11_add_73 (by decide) ?_
                refine z_goto (tgt := 78) dX11_add_74 (by decide) ?_
                refine z_istore_n dX11_add_78 rfl (by decide) ?_
                show z_V _ _ _ _ _ _ _ _ _ [_, _, _, _] _ _
                have hg : adG o x := by
                  simp only [b2_e, Classical.not_not] at *
                  unfold adG
                  grind
                exact K1 hg
      · refine z_iload_n dX11_add_37 rfl rfl ?_
        refine z_iconst (v := nI 2) dX11_add_38 (by decide) ?_
        refine z_icmp_ne (tgt := 51) dX11_add_39 (by decide) (fun c39 => ?_) (fun c39 => ?_)
        · refine z_iload_n dX11_add_51 rfl rfl ?_
          refine z_bipush (v := nI 13) dX11_add_52 (by decide) ?_
          refine z_icmp_eq (tgt := 63) dX11_add_54 (by decide) (fun c54 => ?_) (fun c54 => ?_)
          · refine z_iload_n dX11_add_63 rfl rfl ?_
            refine z_iconst (v := 0) dX11_add_64 (by decide) ?_
            refine z_bipush (v := nI 39) dX11_add_65 (by decide) ?_
            refine z_cS1 dX11_add_67 ml_X11_114 (sp_within) rfl rfl (Nat.le_of_ble_eq_true rfl) ?_
            refine z_if_eq (tgt := 77) dX11_add_70 (by decide) (fun c70 => ?_) (fun c70 => ?_)
            · refine z_iconst (v := 0) dX11_add_77 (by decide) ?_
              refine z_istore_n dX11_add_78 rfl (by decide) ?_
              show z_V _ _ _ _ _ _ _ _ _ [_, _, _, _] _ _
              have hg : ¬ adG o x := by
                simp only [b2_e, Classical.not_not] at *
                unfold adG
                grind
              exact K0 hg
            · refine z_iconst (v := 1) dX11_add_73 (by decide) ?_
              refine z_goto (tgt := 78) dX11_add_74 (by decide) ?_
              refine z_istore_n dX11_add_78 rfl (by decide) ?_
              show z_V _ _ _ _ _ _ _ _ _ [_, _, _, _] _ _
              have hg : adG o x := by
                simp only [b2_e, Classical.not_not] at *
                unfold adG
                grind
              exact K1 hg
          · refine z_iload_n dX11_add_57 rfl rfl ?_
            refine z_bipush (v := nI 14) dX11_add_58 (by decide) ?_
            refine z_icmp_ne (tgt := 73) dX11_add_60 (by decide) (fun c60 => ?_) (fun c60 => ?_)
            · refine z_iconst (v := 1) dX11_add_73 (by decide) ?_
              refine z_goto (tgt := 78) dX11_add_74 (by decide) ?_
              refine z_istore_n dX11_add_78 rfl (by decide) ?_
              show z_V _ _ _ _ _ _ _ _ _ [_, _, _, _] _ _
              have hg : adG o x := by
                simp only [b2_e, Classical.not_not] at *
                unfold adG
                grind
              exact K1 hg
            · refine z_iload_n dX11_add_63 rfl rfl ?_
              refine z_iconst (v := 0) dX11_add_64 (by decide) ?_
              refine z_bipush (v := nI 39) dX11_add_65 (by decide) ?_
              refine z_cS1 dX11_add_67 ml_X11_114 (sp_within) rfl rfl (Nat.le_of_ble_eq_true rfl) ?_
              refine z_if_eq (tgt := 77) dX11_add_70 (by decide) (fun c70 => ?_) (fun c70 => ?_)
              · refine z_iconst (v := 0) dX11_add_77 (by decide) ?_
                refine z_istore_n dX11_add_78 rfl (by decide) ?_
                show z_V _ _ _ _ _ _ _ _ _ [_, _, _, _] _ _
                have hg : ¬ adG o x := by
                  simp only [b2_e, Classical.not_not] at *
                  unfold adG
                  grind
                exact K0 hg
              · refine z_iconst (v := 1) dX11_add_73 (by decide) ?_
                refine z_goto (tgt := 78) dX11_add_74 (by decide) ?_
                refine z_istore_n dX11_add_78 rfl (by decide) ?_
                show z_V _ _ _ _ _ _ _ _ _ [_, _, _, _] _ _
                have hg : adG o x := by
                  simp only [b2_e, Classical.not_not] at *
                  unfold adG
                  grind
                exact K1 hg
        · refine z_iload_n dX11_add_42 rfl rfl ?_
          refine z_iconst (v := 0) dX11_add_43 (by decide) ?_
          refine z_iconst (v := nI 5) dX11_add_44 (by decide) ?_
          refine z_cS1 dX11_add_45 ml_X11_114 (sp_within) rfl rfl (Nat.le_of_ble_eq_true rfl) ?_
          refine z_if_eq (tgt := 77) dX11_add_48 (by decide) (fun c48 => ?_) (fun c48 => ?_)
          · refine z_iconst (v := 0) dX11_add_77 (by decide) ?_
            refine z_istore_n dX11_add_78 rfl (by decide) ?_
            show z_V _ _ _ _ _ _ _ _ _ [_, _, _, _] _ _
            have hg : ¬ adG o x := by
              simp only [b2_e, Classical.not_not] at *
              unfold adG
              grind
            exact K0 hg
          · refine z_iload_n dX11_add_51 rfl rfl ?_
            refine z_bipush (v := nI 13) dX11_add_52 (by decide) ?_
            refine z_icmp_eq (tgt := 63) dX11_add_54 (by decide) (fun c54 => ?_) (fun c54 => ?_)
            · refine z_iload_n dX11_add_63 rfl rfl ?_
              refine z_iconst (v := 0) dX11_add_64 (by decide) ?_
              refine z_bipush (v := nI 39) dX11_add_65 (by decide) ?_
              refine z_cS1 dX11_add_67 ml_X11_114 (sp_within) rfl rfl (Nat.le_of_ble_eq_true rfl) ?_
              refine z_if_eq (tgt := 77) dX11_add_70 (by decide) (fun c70 => ?_) (fun c70 => ?_)
              · refine z_iconst (v := 0) dX11_add_77 (by decide) ?_
                refine z_istore_n dX11_add_78 rfl (by decide) ?_
                show z_V _ _ _ _ _ _ _ _ _ [_, _, _, _] _ _
                have hg : ¬ adG o x := by
                  simp only [b2_e, Classical.not_not] at *
                  unfold adG
                  grind
                exact K0 hg
              · refine z_iconst (v := 1) dX11_add_73 (by decide) ?_
                refine z_goto (tgt := 78) dX11_add_74 (by decide) ?_
                refine z_istore_n dX11_add_78 rfl (by decide) ?_
                show z_V _ _ _ _ _ _ _ _ _ [_, _, _, _] _ _
                have hg : adG o x := by
                  simp only [b2_e, Classical.not_not] at *
                  unfold adG
                  grind
                exact K1 hg
            · refine z_iload_n dX11_add_57 rfl rfl ?_
              refine z_bipush (v := nI 14) dX11_add_58 (by decide) ?_
              refine z_icmp_ne (tgt := 73) dX11_add_60 (by decide) (fun c60 => ?_) (fun c60 => ?_)
              · refine z_iconst (v := 1) dX11_add_73 (by decide) ?_
                refine z_goto (tgt := 78) dX11_add_74 (by decide) ?_
                refine z_istore_n dX11_add_78 rfl (by decide) ?_
                show z_V _ _ _ _ _ _ _ _ _ [_, _, _, _] _ _
                have hg : adG o x := by
                  simp only [b2_e, Classical.not_not] at *
                  unfold adG
                  grind
                exact K1 hg
              · refine z_iload_n dX11_add_63 rfl rfl ?_
                refine z_iconst (v := 0) dX11_add_64 (by decide) ?_
                refine z_bipush (v := nI 39) dX11_add_65 (by decide) ?_
                refine z_cS1 dX11_add_67 ml_X11_114 (sp_within) rfl rfl (Nat.le_of_ble_eq_true rfl) ?_
                refine z_if_eq (tgt := 77) dX11_add_70 (by decide) (fun c70 => ?_) (fun c70 => ?_)
                · refine z_iconst (v := 0) dX11_add_77 (by decide) ?_
                  refine z_istore_n dX11_add_78 rfl (by decide) ?_
                  show z_V _ _ _ _ _ _ _ _ _ [_, _, _, _] _ _
                  have hg : ¬ adG o x := by
                    simp only [b2_e, Classical.not_not] at *
                    unfold adG
                    grind
                  exact K0 hg
                · refine z_iconst (v := 1) dX11_add_73 (by decide) ?_
                  refine z_goto (tgt := 78) dX11_add_74 (by decide) ?_
                  refine z_istore_n dX11_add_78 rfl (by decide) ?_
                  show z_V _ _ _ _ _ _ _ _ _ [_, _, _, _] _ _
                  have hg : adG o x := by
                    simp only [b2_e, Classical.not_not] at *
                    unfold adG
                    grind
                  exact K1 hg
    · refine z_iload_n dX11_add_19 rfl rfl ?_
      refine z_sipush (v := (-32768)) dX11_add_20 (by decide) ?_
      refine z_sipush (v := nI 32767) dX11_add_23 (by decide) ?_
      refine z_cS1 dX11_add_26 ml_X11_114 (sp_within) rfl rfl (Nat.le_of_ble_eq_true rfl) ?_
      refine z_if_eq (tgt := 77) dX11_add_29 (by decide) (fun c29 => ?_) (fun c29 => ?_)
      · refine z_iconst (v := 0) dX11_add_77 (by decide) ?_
        refine z_istore_n dX11_add_78 rfl (by decide) ?_
        show z_V _ _ _ _ _ _ _ _ _ [_, _, _, _] _ _
        have hg : ¬ adG o x := by
          simp only [b2_e, Classical.not_not] at *
          unfold adG
          grind
        exact K0 hg
      · refine z_iload_n dX11_add_32 rfl rfl ?_
        refine z_iconst (v := 1) dX11_add_33 (by decide) ?_
        refine z_icmp_eq (tgt := 42) dX11_add_34 (by decide) (fun c34 => ?_) (fun c34 => ?_)
        · refine z_iload_n dX11_add_42 rfl rfl ?_
          refine z_iconst (v := 0) dX11_add_43 (by decide) ?_
          refine z_iconst (v := nI 5) dX11_add_44 (by decide) ?_
          refine z_cS1 dX11_add_45 ml_X11_114 (sp_within) rfl rfl (Nat.le_of_ble_eq_true rfl) ?_
          refine z_if_eq (tgt := 77) dX11_add_48 (by decide) (fun c48 => ?_) (fun c48 => ?_)
          · refine z_iconst (v := 0) dX11_add_77 (by decide) ?_
            refine z_istore_n dX11_add_78 rfl (by decide) ?_
            show z_V _ _ _ _ _ _ _ _ _ [_, _, _, _] _ _
            have hg : ¬ adG o x := by
              simp only [b2_e, Classical.not_not] at *
              unfold adG
              grind
            exact K0 hg
          · refine z_iload_n dX11_add_51 rfl rfl ?_
            refine z_bipush (v := nI 13) dX11_add_52 (by decide) ?_
            refine z_icmp_eq (tgt := 63) dX11_add_54 (by decide) (fun c54 => ?_) (fun c54 => ?_)
            · refine z_iload_n dX11_add_63 rfl rfl ?_
              refine z_iconst (v := 0) dX11_add_64 (by decide) ?_
              refine z_bipush (v := nI 39) dX11_add_65 (by decide) ?_
              refine z_cS1 dX11_add_67 ml_X11_114 (sp_within) rfl rfl (Nat.le_of_ble_eq_true rfl) ?_
              refine z_if_eq (tgt := 77) dX11_add_70 (by decide) (fun c70 => ?_) (fun c70 => ?_)
              · refine z_iconst (v := 0) dX11_add_77 (by decide) ?_
                refine z_istore_n dX11_add_78 rfl (by decide) ?_
                show z_V _ _ _ _ _ _ _ _ _ [_, _, _, _] _ _
                have hg : ¬ adG o x := by
                  simp only [b2_e, Classical.not_not] at *
                  unfold adG
                  grind
                exact K0 hg
              · refine z_iconst (v := 1) dX11_add_73 (by decide) ?_
                refine z_goto (tgt := 78) dX11_add_74 (by decide) ?_
                refine z_istore_n dX11_add_78 rfl (by decide) ?_
                show z_V _ _ _ _ _ _ _ _ _ [_, _, _, _] _ _
                have hg : adG o x := by
                  simp only [b2_e, Classical.not_not] at *
                  unfold adG
                  grind
                exact K1 hg
            · refine z_iload_n dX11_add_57 rfl rfl ?_
              refine z_bipush (v := nI 14) dX11_add_58 (by decide) ?_
              refine z_icmp_ne (tgt := 73) dX11_add_60 (by decide) (fun c60 => ?_) (fun c60 => ?_)
              · refine z_iconst (v := 1) dX11_add_73 (by decide) ?_
                refine z_goto (tgt := 78) dX11_add_74 (by decide) ?_
                refine z_istore_n dX11_add_78 rfl (by decide) ?_
                show z_V _ _ _ _ _ _ _ _ _ [_, _, _, _] _ _
                have hg : adG o x := by
                  simp only [b2_e, Classical.not_not] at *
                  unfold adG
                  grind
                exact K1 hg
              · refine z_iload_n dX11_add_63 rfl rfl ?_
                refine z_iconst (v := 0) dX11_add_64 (by decide) ?_
                refine z_bipush (v := nI 39) dX11_add_65 (by decide) ?_
                refine z_cS1 dX11_add_67 ml_X11_114 (sp_within) rfl rfl (Nat.le_of_ble_eq_true rfl) ?_
                refine z_if_eq (tgt := 77) dX11_add_70 (by decide) (fun c70 => ?_) (fun c70 => ?_)
                · refine z_iconst (v := 0) dX11_add_77 (by decide) ?_
                  refine z_istore_n dX11_add_78 rfl (by decide) ?_
                  show z_V _ _ _ _ _ _ _ _ _ [_, _, _, _] _ _
                  have hg : ¬ adG o x := by
                    simp only [b2_e, Classical.not_not] at *
                    unfold adG
                    grind
                  exact K0 hg
                · refine z_iconst (v := 1) dX11_add_73 (by decide) ?_
                  refine z_goto (tgt := 78) dX11_add_74 (by decide) ?_
                  refine z_istore_n dX11_add_78 rfl (by decide) ?_
                  show z_V _ _ _ _ _ _ _ _ _ [_, _, _, _] _ _
                  have hg : adG o x := by
                    simp only [b2_e, Classical.not_not] at *
                    unfold adG
                    grind
                  exact K1 hg
        · refine z_iload_n dX11_add_37 rfl rfl ?_
          refine z_iconst (v := nI 2) dX11_add_38 (by decide) ?_
          refine z_icmp_ne (tgt := 51) dX11_add_39 (by decide) (fun c39 => ?_) (fun c39 => ?_)
          · refine z_iload_n dX11_add_51 rfl rfl ?_
            refine z_bipush (v := nI 13) dX11_add_52 (by decide) ?_
            refine z_icmp_eq (tgt := 63) dX11_add_54 (by decide) (fun c54 => ?_) (fun c54 => ?_)
            · refine z_iload_n dX11_add_63 rfl rfl ?_
              refine z_iconst (v := 0) dX11_add_64 (by decide) ?_
              refine z_bipush (v := nI 39) dX11_add_65 (by decide) ?_
              refine z_cS1 dX11_add_67 ml_X11_114 (sp_within) rfl rfl (Nat.le_of_ble_eq_true rfl) ?_
              refine z_if_eq (tgt := 77) dX11_add_70 (by decide) (fun c70 => ?_) (fun c70 => ?_)
              · refine z_iconst (v := 0) dX11_add_77 (by decide) ?_
                refine z_istore_n dX11_add_78 rfl (by decide) ?_
                show z_V _ _ _ _ _ _ _ _ _ [_, _, _, _] _ _
                have hg : ¬ adG o x := by
                  simp only [b2_e, Classical.not_not] at *
                  unfold adG
                  grind
                exact K0 hg
              · refine z_iconst (v := 1) dX11_add_73 (by decide) ?_
                refine z_goto (tgt := 78) dX11_add_74 (by decide) ?_
                refine z_istore_n dX11_add_78 rfl (by decide) ?_
                show z_V _ _ _ _ _ _ _ _ _ [_, _, _, _] _ _
                have hg : adG o x := by
                  simp only [b2_e, Classical.not_not] at *
                  unfold adG
                  grind
                exact K1 hg
            · refine z_iload_n dX11_add_57 rfl rfl ?_
              refine z_bipush (v := nI 14) dX11_add_58 (by decide) ?_
              refine z_icmp_ne (tgt := 73) dX11_add_60 (by decide) (fun c60 => ?_) (fun c60 => ?_)
              · refine z_iconst (v := 1) dX11_add_73 (by decide) ?_
                refine z_goto (tgt := 78) dX11_add_74 (by decide) ?_
                refine z_istore_n dX11_add_78 rfl (by decide) ?_
                show z_V _ _ _ _ _ _ _ _ _ [_, _, _, _] _ _
                have hg : adG o x := by
                  simp only [b2_e, Classical.not_not] at *
                  unfold adG
                  grind
                exact K1 hg
              · refine z_iload_n dX11_add_63 rfl rfl ?_
                refine z_iconst (v := 0) dX11_add_64 (by decide) ?_
                refine z_bipush (v := nI 39) dX11_add_65 (by decide) ?_
                refine z_cS1 dX11_add_67 ml_X11_114 (sp_within) rfl rfl (Nat.le_of_ble_eq_true rfl) ?_
                refine z_if_eq (tgt := 77) dX11_add_70 (by decide) (fun c70 => ?_) (fun c70 => ?_)
                · refine z_iconst (v := 0) dX11_add_77 (by decide) ?_
                  refine z_istore_n dX11_add_78 rfl (by decide) ?_
                  show z_V _ _ _ _ _ _ _ _ _ [_, _, _, _] _ _
                  have hg : ¬ adG o x := by
                    simp only [b2_e, Classical.not_not] at *
                    unfold adG
                    grind
                  exact K0 hg
                · refine z_iconst (v := 1) dX11_add_73 (by decide) ?_
                  refine z_goto (tgt := 78) dX11_add_74 (by decide) ?_
                  refine z_istore_n dX11_add_78 rfl (by decide) ?_
                  show z_V _ _ _ _ _ _ _ _ _ [_, _, _, _] _ _
                  have hg : adG o x := by
                    simp only [b2_e, Classical.not_not] at *
                    unfold adG
                    grind
                  exact K1 hg
          · refine z_iload_n dX11_add_42 rfl rfl ?_
            refine z_iconst (v := 0) dX11_add_43 (by decide) ?_
            refine z_iconst (v := nI 5) dX11_add_44 (by decide) ?_
            refine z_cS1 dX11_add_45 ml_X11_114 (sp_within) rfl rfl (Nat.le_of_ble_eq_true rfl) ?_
            refine z_if_eq (tgt := 77) dX11_add_48 (by decide) (fun c48 => ?_) (fun c48 => ?_)
            · refine z_iconst (v := 0) dX11_add_77 (by decide) ?_
              refine z_istore_n dX11_add_78 rfl (by decide) ?_
              show z_V _ _ _ _ _ _ _ _ _ [_, _, _, _] _ _
              have hg : ¬ adG o x := by
                simp only [b2_e, Classical.not_not] at *
                unfold adG
                grind
              exact K0 hg
            · refine z_iload_n dX11_add_51 rfl rfl ?_
              refine z_bipush (v := nI 13) dX11_add_52 (by decide) ?_
              refine z_icmp_eq (tgt := 63) dX11_add_54 (by decide) (fun c54 => ?_) (fun c54 => ?_)
              · refine z_iload_n dX11_add_63 rfl rfl ?_
                refine z_iconst (v := 0) dX11_add_64 (by decide) ?_
                refine z_bipush (v := nI 39) dX11_add_65 (by decide) ?_
                refine z_cS1 dX11_add_67 ml_X11_114 (sp_within) rfl rfl (Nat.le_of_ble_eq_true rfl) ?_
                refine z_if_eq (tgt := 77) dX11_add_70 (by decide) (fun c70 => ?_) (fun c70 => ?_)
                · refine z_iconst (v := 0) dX11_add_77 (by decide) ?_
                  refine z_istore_n dX11_add_78 rfl (by decide) ?_
                  show z_V _ _ _ _ _ _ _ _ _ [_, _, _, _] _ _
                  have hg : ¬ adG o x := by
                    simp only [b2_e, Classical.not_not] at *
                    unfold adG
                    grind
                  exact K0 hg
                · refine z_iconst (v := 1) dX11_add_73 (by decide) ?_
                  refine z_goto (tgt := 78) dX11_add_74 (by decide) ?_
                  refine z_istore_n dX11_add_78 rfl (by decide) ?_
                  show z_V _ _ _ _ _ _ _ _ _ [_, _, _, _] _ _
                  have hg : adG o x := by
                    simp only [b2_e, Classical.not_not] at *
                    unfold adG
                    grind
                  exact K1 hg
              · refine z_iload_n dX11_add_57 rfl rfl ?_
                refine z_bipush (v := nI 14) dX11_add_58 (by decide) ?_
                refine z_icmp_ne (tgt := 73) dX11_add_60 (by decide) (fun c60 => ?_) (fun c60 => ?_)
                · refine z_iconst (v := 1) dX11_add_73 (by decide) ?_
                  refine z_goto (tgt := 78) dX11_add_74 (by decide) ?_
                  refine z_istore_n dX11_add_78 rfl (by decide) ?_
                  show z_V _ _ _ _ _ _ _ _ _ [_, _, _, _] _ _
                  have hg : adG o x := by
                    simp only [b2_e, Classical.not_not] at *
                    unfold adG
                    grind
                  exact K1 hg
                · refine z_iload_n dX11_add_63 rfl rfl ?_
                  refine z_iconst (v := 0) dX11_add_64 (by decide) ?_
                  refine z_bipush (v := nI 39) dX11_add_65 (by decide) ?_
                  refine z_cS1 dX11_add_67 ml_X11_114 (sp_within) rfl rfl (Nat.le_of_ble_eq_true rfl) ?_
                  refine z_if_eq (tgt := 77) dX11_add_70 (by decide) (fun c70 => ?_) (fun c70 => ?_)
                  · refine z_iconst (v := 0) dX11_add_77 (by decide) ?_
                    refine z_istore_n dX11_add_78 rfl (by decide) ?_
                    show z_V _ _ _ _ _ _ _ _ _ [_, _, _, _] _ _
                    have hg : ¬ adG o x := by
                      simp only [b2_e, Classical.not_not] at *
                      unfold adG
                      grind
                    exact K0 hg
                  · refine z_iconst (v := 1) dX11_add_73 (by decide) ?_
                    refine z_goto (tgt := 78) dX11_add_74 (by decide) ?_
                    refine z_istore_n dX11_add_78 rfl (by decide) ?_
                    show z_V _ _ _ _ _ _ _ _ _ [_, _, _, _] _ _
                    have hg : adG o x := by
                      simp only [b2_e, Classical.not_not] at *
                      unfold adG
                      grind
                    exact K1 hg
set_option maxRecDepth 100000 in
set_option maxHeartbeats 4000000 in
theorem sp_radd_1 {d : Nat} {σ : Nat → Nat → Int32} {τ : Nat → Nat → Int64} {o x : Int32} (hG : ¬ adG o x) : z_MV M_X11_add (d + 1) 0 0 [.ref 92, .int o, .int x] (124, z_r0, σ, τ) (some (.int 0)) (124, z_r0, z_up σ 92 0 1, τ) := by
  refine z_MV.of pn_X11_add (Nat.le_of_ble_eq_true rfl) (by simp [Value.category]) rfl ?_
  show z_V _ _ _ _ _ _ _ _ _ [_, _, _, _] _ _
  refine rad_0 (fun hg => ?_) (fun hg => ?_)
  · exact absurd hg hG
  · refine z_iload_n dX11_add_79 rfl rfl ?_
    refine z_if_ne (tgt := 89) dX11_add_80 (by decide) (fun c_ => absurd (by decide +kernel) c_) (fun _ => ?_)
    refine z_aload_n dX11_add_83 rfl rfl ?_
    refine z_iconst (v := 1) dX11_add_84 (by decide) ?_
    refine z_cV1 dX11_add_85 ml_X11_118 (sp_fail) rfl ⟨by decide, rfl⟩ rfl rfl (Nat.le_of_ble_eq_true rfl) ?_
    refine z_Vx (z_uu _ _ _ _ _).symm ?_
    exact z_iret dX11_add_88 rfl rfl rfl
set_option maxRecDepth 100000 in
set_option maxHeartbeats 4000000 in
theorem sp_radd_2 {d : Nat} {σ : Nat → Nat → Int32} {τ : Nat → Nat → Int64} {o x : Int32} (hG : adG o x) (h2 : σ 92 1 = nI 40 ∨ ¬ σ 92 5 = 0) : z_MV M_X11_add (d + 1) 0 0 [.ref 92, .int o, .int x] (124, z_r0, σ, τ) (some (.int 0)) (124, z_r0, z_up σ 92 0 (nI 2), τ) := by
  refine z_MV.of pn_X11_add (Nat.le_of_ble_eq_true rfl) (by simp [Value.category]) rfl ?_
  show z_V _ _ _ _ _ _ _ _ _ [_, _, _, _] _ _
  refine rad_0 (fun hg => ?_) (fun hg => ?_)
  · refine z_iload_n dX11_add_79 rfl rfl ?_
    refine z_if_ne (tgt := 89) dX11_add_80 (by decide) (fun _ => ?_) (fun c_ => absurd c_ (by decide +kernel))
    refine z_aload_n dX11_add_89 rfl rfl ?_
    refine z_getI dX11_add_90 fl_X11_122 rfl rfl rfl ?_
    refine z_bipush (v := nI 40) dX11_add_93 (by decide) ?_
    refine z_icmp_eq (tgt := 105) dX11_add_95 (by decide) (fun c95 => ?_) (fun c95 => ?_)
    · refine z_aload_n dX11_add_105 rfl rfl ?_
      refine z_iconst (v := nI 2) dX11_add_106 (by decide) ?_
      refine z_cV1 dX11_add_107 ml_X11_118 (sp_fail) rfl ⟨by decide, rfl⟩ rfl rfl (Nat.le_of_ble_eq_true rfl) ?_
      refine z_Vx (z_uu _ _ _ _ _).symm ?_
      exact z_iret dX11_add_110 rfl rfl rfl
    · refine z_aload_n dX11_add_98 rfl rfl ?_
      refine z_getI dX11_add_99 fl_X11_125 rfl rfl rfl ?_
      refine z_if_eq (tgt := 111) dX11_add_102 (by decide) (fun c102 => ?_) (fun c102 => ?_)
      · exact absurd c102 (h2.resolve_left c95)
      · refine z_aload_n dX11_add_105 rfl rfl ?_
        refine z_iconst (v := nI 2) dX11_add_106 (by decide) ?_
        refine z_cV1 dX11_add_107 ml_X11_118 (sp_fail) rfl ⟨by decide, rfl⟩ rfl rfl (Nat.le_of_ble_eq_true rfl) ?_
        refine z_Vx (z_uu _ _ _ _ _).symm ?_
        exact z_iret dX11_add_110 rfl rfl rfl
  · exact absurd hG hg
set_option maxRecDepth 100000 in
set_option maxHeartbeats 4000000 in
theorem sp_radd {d : Nat} {σ : Nat → Nat → Int32} {τ : Nat → Nat → Int64} {o x : Int32} {n : Nat} (hG : adG o x) (hn : σ 92 1 = nI n) (hn40 : n < 40) (hb : σ 92 5 = 0) : z_MV M_X11_add (d + 1) 0 0 [.ref 92, .int o, .int x] (124, z_r0, σ, τ) (some (.int (nI (n + 1)))) (124, z_r0, rad σ n o x, τ) := by
  refine z_MV.of pn_X11_add (Nat.le_of_ble_eq_true rfl) (by simp [Value.category]) rfl ?_
  show z_V _ _ _ _ _ _ _ _ _ [_, _, _, _] _ _
  refine rad_0 (fun hg => ?_) (fun hg => ?_)
  · refine z_iload_n dX11_add_79 rfl rfl ?_
    refine z_if_ne (tgt := 89) dX11_add_80 (by decide) (fun _ => ?_) (fun c_ => absurd c_ (by decide +kernel))
    refine z_aload_n dX11_add_89 rfl rfl ?_
    refine z_getI dX11_add_90 fl_X11_122 rfl rfl hn ?_
    refine z_bipush (v := nI 40) dX11_add_93 (by decide) ?_
    refine z_icmp_eq (tgt := 105) dX11_add_95 (by decide) (fun c_ => absurd c_ (nI_ne (by omega) (by decide) (by omega))) (fun _ => ?_)
    refine z_aload_n dX11_add_98 rfl rfl ?_
    refine z_getI dX11_add_99 fl_X11_125 rfl rfl rfl ?_
    refine z_if_eq (tgt := 111) dX11_add_102 (by decide) (fun _ => ?_) (fun c_ => absurd (hb) c_)
    refine z_aload_n dX11_add_111 rfl rfl ?_
    refine z_getR dX11_add_112 fl_X11_7 rfl rfl rfl ?_
    refine z_aload_n dX11_add_115 rfl rfl ?_
    refine z_getI dX11_add_116 fl_X11_122 rfl rfl hn ?_
    refine z_iload_n dX11_add_119 rfl rfl ?_
    refine z_iast dX11_add_120 rfl rfl (by omega) ?_
    refine z_aload_n dX11_add_121 rfl rfl ?_
    refine z_getR dX11_add_122 fl_X11_13 rfl rfl rfl ?_
    refine z_aload_n dX11_add_125 rfl rfl ?_
    refine z_getI dX11_add_126 fl_X11_122 rfl rfl hn ?_
    refine z_iload_n dX11_add_129 rfl rfl ?_
    refine z_iast dX11_add_130 rfl rfl (by omega) ?_
    refine z_aload_n dX11_add_131 rfl rfl ?_
    refine z_dup dX11_add_132 rfl ?_
    refine z_getI dX11_add_133 fl_X11_122 rfl rfl hn ?_
    refine z_iconst (v := 1) dX11_add_136 (by decide) ?_
    refine z_iadd dX11_add_137 (nI_1 _) ?_
    refine z_putI dX11_add_138 fl_X11_122 rfl rfl (Or.inl rfl) rfl ?_
    refine z_aload_n dX11_add_141 rfl rfl ?_
    refine z_getI dX11_add_142 fl_X11_122 rfl rfl (show _ = nI (n + 1) by simp [z_up]) ?_
    exact z_iret dX11_add_145 rfl rfl rfl
  · exact absurd hG hg
def rrG (σ : Nat → Nat → Int32) : Nat → Nat → Int32 := if ¬ σ 92 15 < 0 ∧ σ 92 16 = nI 30 then rgu σ (tN (σ 92 15)) else σ
/-- one step of the reference: from σ to σ' -/
def rrB (d : Nat) (τ : Nat → Nat → Int64) (σ σ' : Nat → Nat → Int32) : Prop := (σ 92 15 < 0 ∨ ∃ p, p < 40 ∧ σ 92 15 = nI p) ∧ ∃ n, n ≤ 4 ∧ σ 92 19 = nI n ∧
  ((rrG σ 92 15 < 0 ∧ ∃ t, t < 4 ∧ tofF (rrG σ) (σ 92 7) n = nI t ∧ z_MV M_X11_turn (d + 4) 0 0 [.ref 92, .int (nI t)] (124, z_r0, rrG σ, τ) none (124, z_r0, σ', τ)) ∨
   ((rrG σ 92 15 < 0 → tofF (rrG σ) (σ 92 7) n < 0) ∧ z_MV M_X11_interpret (d + 4) 0 0 [.ref 92] (124, z_r0, rrG σ, τ) none (124, z_r0, σ', τ)))
theorem rrG_7 {σ : Nat → Nat → Int32} : rrG σ 92 7 = σ 92 7 := by
  unfold rrG
  split
  · simp [rgu, z_up]
  · rfl
theorem rrG_19 {σ : Nat → Nat → Int32} : rrG σ 92 19 = σ 92 19 := by
  unfold rrG
  split
  · simp [rgu, z_up]
  · rfl
set_option maxRecDepth 100000 in
set_option maxHeartbeats 4000000 in
theorem rr_a {d : Nat} {σ : Nat → Nat → Int32} {τ : Nat → Nat → Int64} {j : Nat} {x : Int32} {w3 : Option Value} {r : Option Value} {X1 : z_X} (hrec : σ 92 15 < 0 ∨ ∃ p, p < 40 ∧ σ 92 15 = nI p) (K1 : ∀ w3 : Option Value, z_V M_X11_run (d + 5) 0 0 0 0 r X1 73 [some (.ref 92), some (.int x), some (.int (nI j)), w3] [] (124, z_r0, rrG σ, τ)) : z_V M_X11_run (d + 5) 0 0 0 0 r X1 49 [some (.ref 92), some (.int x), some (.int (nI j)), w3] [] (124, z_r0, σ, τ) := by
  refine z_aload_n dX11_run_49 rfl rfl ?_
  refine z_getI dX11_run_50 fl_X11_38 rfl rfl rfl ?_
  refine z_if_lt (tgt := 73) dX11_run_53 (by decide) (fun c53 => ?_) (fun c53 => ?_)
  · refine z_Vx (σ' := rrG σ) (by rw [rrG, if_neg (fun z => z.1 c53)]) ?_
    exact K1 w3
  · obtain ⟨p, hp40, hp⟩ := hrec.resolve_left c53
    refine z_aload_n dX11_run_56 rfl rfl ?_
    refine z_getI dX11_run_57 fl_X11_185 rfl rfl rfl ?_
    refine z_bipush (v := nI 30) dX11_run_60 (by decide) ?_
    refine z_icmp_ne (tgt := 73) dX11_run_62 (by decide) (fun c62 => ?_) (fun c62 => ?_)
    · refine z_Vx (σ' := rrG σ) (by rw [rrG, if_neg (fun z => c62 z.2)]) ?_
      exact K1 w3
    · refine z_aload_n dX11_run_65 rfl rfl ?_
      refine z_aload_n dX11_run_66 rfl rfl ?_
      refine z_getI dX11_run_67 fl_X11_38 rfl rfl hp ?_
      refine z_cV0 dX11_run_70 ml_X11_191 (sp_rgiveUp hp40) rfl ⟨by decide, rfl⟩ rfl rfl (Nat.le_of_ble_eq_true rfl) ?_
      refine z_Vx (σ' := rrG σ) (by rw [rrG, if_pos ⟨c53, c62⟩, hp, tN_nI (by omega)]) ?_
      exact K1 w3
theorem nle0 {x : Int32} (h : x < 0) : ¬ 0 ≤ x := by
  intro z
  have h1 := Int32.lt_iff_toInt_lt.mp h
  have h2 := Int32.le_iff_toInt_le.mp z
  omega
theorem le0 {x : Int32} (h : ¬ x < 0) : 0 ≤ x := by
  rw [Int32.le_iff_toInt_le]
  rw [Int32.lt_iff_toInt_lt] at h
  omega
set_option maxRecDepth 100000 in
set_option maxHeartbeats 4000000 in
theorem rr_b {d : Nat} {σ : Nat → Nat → Int32} {τ : Nat → Nat → Int64} {σ' : Nat → Nat → Int32} {j : Nat} {x : Int32} {w3 : Option Value} {r : Option Value} {X1 : z_X} (h : rrB d τ σ σ') (K : ∀ w3 : Option Value, z_V M_X11_run (d + 5) 0 0 0 0 r X1 109 [some (.ref 92), some (.int x), some (.int (nI j)), w3] [] (124, z_r0, σ', τ)) : z_V M_X11_run (d + 5) 0 0 0 0 r X1 49 [some (.ref 92), some (.int x), some (.int (nI j)), w3] [] (124, z_r0, σ, τ) := by
  obtain ⟨hrec, n, h4, hn, ⟨hr, t, ht4, ht, hc⟩ | ⟨hno, hc⟩⟩ := h
  · refine rr_a hrec (fun w3 => ?_)
    refine z_aload_n dX11_run_73 rfl rfl ?_
    refine z_getI dX11_run_74 fl_X11_38 rfl rfl rfl ?_
    refine z_if_ge (tgt := 91) dX11_run_77 (by decide) (fun c_ => absurd c_ (nle0 hr)) (fun _ => ?_)
    refine z_aload_n dX11_run_80 rfl rfl ?_
    refine z_aload_n dX11_run_81 rfl rfl ?_
    refine z_getI dX11_run_82 fl_X11_19 rfl rfl rrG_7 ?_
    refine z_cV1 dX11_run_85 ml_X11_200 (sp_traceOf (rrG_19.trans hn) h4) rfl ⟨by decide, rfl⟩ rfl rfl (Nat.le_of_ble_eq_true rfl) ?_
    rw [ht]
    refine z_goto (tgt := 92) dX11_run_88 (by decide) ?_
    refine z_istore_n dX11_run_92 rfl (by decide) ?_
    show z_V _ _ _ _ _ _ _ _ _ [_, _, _, _] _ _
    refine z_iload_n dX11_run_93 rfl rfl ?_
    refine z_if_lt (tgt := 105) dX11_run_94 (by decide) (fun c_ => absurd c_ (nI_pos (by omega))) (fun _ => ?_)
    refine z_aload_n dX11_run_97 rfl rfl ?_
    refine z_iload_n dX11_run_98 rfl rfl ?_
    refine z_cV0 dX11_run_99 ml_X11_203 (hc) rfl ⟨by decide, rfl⟩ rfl rfl (Nat.le_of_ble_eq_true rfl) ?_
    refine z_goto (tgt := 109) dX11_run_102 (by decide) ?_
    exact K _
  · refine rr_a hrec (fun w3 => ?_)
    refine z_aload_n dX11_run_73 rfl rfl ?_
    refine z_getI dX11_run_74 fl_X11_38 rfl rfl rfl ?_
    refine z_if_ge (tgt := 91) dX11_run_77 (by decide) (fun c77 => ?_) (fun c77 => ?_)
    · refine z_iconst (v := (-1)) dX11_run_91 (by decide) ?_
      refine z_istore_n dX11_run_92 rfl (by decide) ?_
      show z_V _ _ _ _ _ _ _ _ _ [_, _, _, _] _ _
      refine z_iload_n dX11_run_93 rfl rfl ?_
      refine z_if_lt (tgt := 105) dX11_run_94 (by decide) (fun _ => ?_) (fun c_ => absurd (by decide) c_)
      refine z_aload_n dX11_run_105 rfl rfl ?_
      refine z_cV0 dX11_run_106 ml_X11_206 (hc) rfl ⟨by decide, rfl⟩ rfl rfl (Nat.le_of_ble_eq_true rfl) ?_
      exact K _
    · have hr : rrG σ 92 15 < 0 := by
        rcases Classical.em (rrG σ 92 15 < 0) with q | q
        · exact q
        · exact absurd (le0 q) c77
      refine z_aload_n dX11_run_80 rfl rfl ?_
      refine z_aload_n dX11_run_81 rfl rfl ?_
      refine z_getI dX11_run_82 fl_X11_19 rfl rfl rrG_7 ?_
      refine z_cV1 dX11_run_85 ml_X11_200 (sp_traceOf (rrG_19.trans hn) h4) rfl ⟨by decide, rfl⟩ rfl rfl (Nat.le_of_ble_eq_true rfl) ?_
      refine z_goto (tgt := 92) dX11_run_88 (by decide) ?_
      refine z_istore_n dX11_run_92 rfl (by decide) ?_
      show z_V _ _ _ _ _ _ _ _ _ [_, _, _, _] _ _
      refine z_iload_n dX11_run_93 rfl rfl ?_
      refine z_if_lt (tgt := 105) dX11_run_94 (by decide) (fun _ => ?_) (fun c_ => absurd (hno hr) c_)
      refine z_aload_n dX11_run_105 rfl rfl ?_
      refine z_cV0 dX11_run_106 ml_X11_206 (hc) rfl ⟨by decide, rfl⟩ rfl rfl (Nat.le_of_ble_eq_true rfl) ?_
      exact K _
set_option maxRecDepth 100000 in
set_option maxHeartbeats 4000000 in
theorem rr_loop {d : Nat} {τ : Nat → Nat → Int64} {F : Nat → Nat → Nat → Int32} {n s : Nat} (h500 : n ≤ 500) (hs : s ≤ n) (hst : ∀ j, j < s → ¬ F j 92 7 < 0 ∧ rrB d τ (F j) (F (j + 1))) (hend : s = n ∨ F s 92 7 < 0) : ∀ (m v : Nat) (w3 : Option Value), v ≤ s → s - v < m → z_V M_X11_run (d + 5) 0 0 0 0 (some (.int (nI s))) (124, z_r0, F s, τ) 37 [some (.ref 92), some (.int (nI n)), some (.int (nI v)), w3] [] (124, z_r0, F v, τ) := by
  intro m
  induction m with
  | zero => intro v w3 _ h; omega
  | succ m ih =>
    intro v w3 hv1 hv2
    refine z_iload_n dX11_run_37 rfl rfl ?_
    refine z_iload_n dX11_run_38 rfl rfl ?_
    refine z_icmp_ge (tgt := 115) dX11_run_39 (by decide) (fun c39 => ?_) (fun c39 => ?_)
    · have e0 : v = s := by
        rcases Nat.lt_or_ge v n with q | q
        · exact absurd c39 (nI_ge q (by omega))
        · omega
      subst e0
      refine z_iload_n dX11_run_115 rfl rfl ?_
      exact z_iret dX11_run_116 rfl rfl rfl
    · have hlt : v < n := by
        rcases Nat.lt_or_ge v n with q | q
        · exact q
        · exact absurd (nI_le q (by omega)) c39
      refine z_aload_n dX11_run_42 rfl rfl ?_
      refine z_getI dX11_run_43 fl_X11_19 rfl rfl rfl ?_
      refine z_if_lt (tgt := 115) dX11_run_46 (by decide) (fun c46 => ?_) (fun c46 => ?_)
      · have e0 : v = s := by
          rcases Nat.lt_or_ge v s with q | q
          · exact absurd c46 (hst v q).1
          · omega
        subst e0
        refine z_iload_n dX11_run_115 rfl rfl ?_
        exact z_iret dX11_run_116 rfl rfl rfl
      · have hvs : v < s := by
          rcases Nat.lt_or_ge v s with q | q
          · exact q
          · have e0 : v = s := by omega
            subst e0
            exact absurd (hend.resolve_left (by omega)) c46
        refine rr_b (hst v hvs).2 (fun w3 => ?_)
        refine z_iinc dX11_run_109 rfl (nI_i _) (by decide) ?_
        show z_V _ _ _ _ _ _ _ _ _ [_, _, _, _] _ _
        refine z_goto (tgt := 37) dX11_run_112 (by decide) ?_
        exact ih (v + 1) w3 (by omega) (by omega)
set_option maxRecDepth 100000 in
set_option maxHeartbeats 4000000 in
theorem sp_rrun {d : Nat} {σ : Nat → Nat → Int32} {τ : Nat → Nat → Int64} {F : Nat → Nat → Nat → Int32} {n s : Nat} (h500 : n ≤ 500) (hs : s ≤ n) (hst : ∀ j, j < s → ¬ F j 92 7 < 0 ∧ rrB d τ (F j) (F (j + 1))) (hend : s = n ∨ F s 92 7 < 0) (h1 : 1 ≤ n) (hF0 : F 0 = z_up σ 92 0 0) (hb : ¬ σ 92 5 = 0) : z_MV M_X11_run (d + 5) 0 0 [.ref 92, .int (nI n)] (124, z_r0, σ, τ) (some (.int (nI s))) (124, z_r0, F s, τ) := by
  refine z_MV.of pn_X11_run (Nat.le_of_ble_eq_true rfl) (by simp [Value.category]) rfl ?_
  show z_V _ _ _ _ _ _ _ _ _ [_, _, _, _] _ _
  refine z_aload_n dX11_run_0 rfl rfl ?_
  refine z_iconst (v := 0) dX11_run_1 (by decide) ?_
  refine z_putI dX11_run_2 fl_X11_111 rfl rfl (Or.inl rfl) rfl ?_
  refine z_iload_n dX11_run_5 rfl rfl ?_
  refine z_iconst (v := 1) dX11_run_6 (by decide) ?_
  refine z_sipush (v := nI 500) dX11_run_7 (by decide) ?_
  refine z_cS1 dX11_run_10 ml_X11_114 (sp_within) rfl rfl (Nat.le_of_ble_eq_true rfl) ?_
  refine z_if_ne (tgt := 22) dX11_run_13 (by decide) (fun _ => ?_) (fun c_ => absurd c_ (b2_n ⟨by rw [show (1 : Int32) = nI 1 by decide]; exact nI_nlt h1 (by omega), nI_nlt h500 (by omega)⟩))
  refine z_aload_n dX11_run_22 rfl rfl ?_
  refine z_getI dX11_run_23 fl_X11_125 rfl rfl rfl ?_
  refine z_if_ne (tgt := 35) dX11_run_26 (by decide) (fun _ => ?_) (fun c_ => absurd c_ (hb))
  refine z_iconst (v := 0) dX11_run_35 (by decide) ?_
  refine z_istore_n dX11_run_36 rfl (by decide) ?_
  show z_V _ _ _ _ _ _ _ _ _ [_, _, _, _] _ _
  refine z_Vx (σ' := F 0) hF0 ?_
  exact rr_loop h500 hs hst hend (s + 1) 0 none (by omega) (by omega)
set_option maxRecDepth 100000 in
set_option maxHeartbeats 4000000 in
theorem sp_rrun_1 {d : Nat} {σ : Nat → Nat → Int32} {τ : Nat → Nat → Int64} {x : Int32} (h : ¬ (¬ x < 1 ∧ ¬ nI 500 < x)) : z_MV M_X11_run (d + 1) 0 0 [.ref 92, .int x] (124, z_r0, σ, τ) (some (.int 0)) (124, z_r0, z_up σ 92 0 1, τ) := by
  refine z_MV.of pn_X11_run (Nat.le_of_ble_eq_true rfl) (by simp [Value.category]) rfl ?_
  show z_V _ _ _ _ _ _ _ _ _ [_, _, _, _] _ _
  refine z_aload_n dX11_run_0 rfl rfl ?_
  refine z_iconst (v := 0) dX11_run_1 (by decide) ?_
  refine z_putI dX11_run_2 fl_X11_111 rfl rfl (Or.inl rfl) rfl ?_
  refine z_iload_n dX11_run_5 rfl rfl ?_
  refine z_iconst (v := 1) dX11_run_6 (by decide) ?_
  refine z_sipush (v := nI 500) dX11_run_7 (by decide) ?_
  refine z_cS1 dX11_run_10 ml_X11_114 (sp_within) rfl rfl (Nat.le_of_ble_eq_true rfl) ?_
  refine z_if_ne (tgt := 22) dX11_run_13 (by decide) (fun c_ => absurd (b2i_f h) c_) (fun _ => ?_)
  refine z_aload_n dX11_run_16 rfl rfl ?_
  refine z_iconst (v := 1) dX11_run_17 (by decide) ?_
  refine z_cV1 dX11_run_18 ml_X11_118 (sp_fail) rfl ⟨by decide, rfl⟩ rfl rfl (Nat.le_of_ble_eq_true rfl) ?_
  refine z_Vx (z_uu _ _ _ _ _).symm ?_
  exact z_iret dX11_run_21 rfl rfl rfl
set_option maxRecDepth 100000 in
set_option maxHeartbeats 4000000 in
theorem sp_rrun_2 {d : Nat} {σ : Nat → Nat → Int32} {τ : Nat → Nat → Int64} {x : Int32} (h : ¬ x < 1 ∧ ¬ nI 500 < x) (hb : σ 92 5 = 0) : z_MV M_X11_run (d + 1) 0 0 [.ref 92, .int x] (124, z_r0, σ, τ) (some (.int 0)) (124, z_r0, z_up σ 92 0 (nI 2), τ) := by
  refine z_MV.of pn_X11_run (Nat.le_of_ble_eq_true rfl) (by simp [Value.category]) rfl ?_
  show z_V _ _ _ _ _ _ _ _ _ [_, _, _, _] _ _
  refine z_aload_n dX11_run_0 rfl rfl ?_
  refine z_iconst (v := 0) dX11_run_1 (by decide) ?_
  refine z_putI dX11_run_2 fl_X11_111 rfl rfl (Or.inl rfl) rfl ?_
  refine z_iload_n dX11_run_5 rfl rfl ?_
  refine z_iconst (v := 1) dX11_run_6 (by decide) ?_
  refine z_sipush (v := nI 500) dX11_run_7 (by decide) ?_
  refine z_cS1 dX11_run_10 ml_X11_114 (sp_within) rfl rfl (Nat.le_of_ble_eq_true rfl) ?_
  refine z_if_ne (tgt := 22) dX11_run_13 (by decide) (fun _ => ?_) (fun c_ => absurd c_ (b2_n h))
  refine z_aload_n dX11_run_22 rfl rfl ?_
  refine z_getI dX11_run_23 fl_X11_125 rfl rfl rfl ?_
  refine z_if_ne (tgt := 35) dX11_run_26 (by decide) (fun c_ => absurd (hb) c_) (fun _ => ?_)
  refine z_aload_n dX11_run_29 rfl rfl ?_
  refine z_iconst (v := nI 2) dX11_run_30 (by decide) ?_
  refine z_cV1 dX11_run_31 ml_X11_118 (sp_fail) rfl ⟨by decide, rfl⟩ rfl rfl (Nat.le_of_ble_eq_true rfl) ?_
  refine z_Vx (z_uu _ _ _ _ _).symm ?_
  exact z_iret dX11_run_34 rfl rfl rfl
