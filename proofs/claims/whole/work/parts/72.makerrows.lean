/-! PART 72: rows of the two makers' states -/
theorem z_row_s {σ : Nat → Nat → Int32} {i : Nat} {f : Nat → Int32} : z_row σ i f i = f := by unfold z_row; rw [if_pos rfl]
theorem z_row_ne {σ : Nat → Nat → Int32} {i b : Nat} {f : Nat → Int32} (h : b ≠ i) : z_row σ i f b = σ b := by unfold z_row; rw [if_neg h]
section
variable {σ : Nat → Nat → Int32} {T n b : Nat} {k l r x y w : Int32}
theorem shr_o (h : b ≠ T + 1 ∧ b ≠ T + 2 ∧ b ≠ T + 3 ∧ b ≠ T + 4 ∧ b ≠ T + 5) : shr σ T n k l r b = σ b := by
  unfold shr
  rw [z_up_ne _ _ _ h.1, z_up_ne _ _ _ h.2.2.2.2, z_up_ne _ _ _ h.2.2.2.1, z_up_ne _ _ _ h.2.2.1, z_up_ne _ _ _ h.2.1]
theorem shr_1 : shr σ T n k l r (T + 1) 4 = nI (n + 1) := by unfold shr; rw [z_up_s]
theorem shr_2 : shr σ T n k l r (T + 2) = va_up (σ (T + 2)) n k := by
  unfold shr
  rw [z_up_ne _ _ _ (by omega), z_up_ne _ _ _ (by omega), z_up_ne _ _ _ (by omega), z_up_ne _ _ _ (by omega), z_up_row]
theorem shr_3 : shr σ T n k l r (T + 3) = va_up (σ (T + 3)) n l := by
  unfold shr
  rw [z_up_ne _ _ _ (by omega), z_up_ne _ _ _ (by omega), z_up_ne _ _ _ (by omega), z_up_row, z_up_ne _ _ _ (by omega)]
theorem shr_4 : shr σ T n k l r (T + 4) = va_up (σ (T + 4)) n r := by
  unfold shr
  rw [z_up_ne _ _ _ (by omega), z_up_ne _ _ _ (by omega), z_up_row, z_up_ne _ _ _ (by omega), z_up_ne _ _ _ (by omega)]
theorem shr_5 : shr σ T n k l r (T + 5) = va_up (σ (T + 5)) n (if k = 0 then l else 0) := by
  unfold shr
  rw [z_up_ne _ _ _ (by omega), z_up_row, z_up_ne _ _ _ (by omega), z_up_ne _ _ _ (by omega), z_up_ne _ _ _ (by omega)]
theorem cmS_o (h : b ≠ 19 ∧ b ≠ 23 ∧ b ≠ 24) : cmS σ x y b = σ b := cmS_ne h
theorem cmS_19 : cmS σ x y 19 3 = nI (tN (σ 19 3) + 1) := by unfold cmS; rw [z_up_s]
theorem cmS_23 : cmS σ x y 23 = va_up (σ 23) (tN (σ 19 3)) x := by
  unfold cmS
  rw [z_up_ne _ _ _ (by omega), z_up_ne _ _ _ (by omega), z_up_row]
theorem cmS_24 : cmS σ x y 24 = va_up (σ 24) (tN (σ 19 3)) y := by
  unfold cmS
  rw [z_up_ne _ _ _ (by omega), z_up_row, z_up_ne _ _ _ (by omega)]
theorem putG_o {g e : Nat} (h : b ≠ T + 6 ∧ b ≠ T + 7 ∧ b ≠ T + 8 ∧ b ≠ T + 9 ∧ b ≠ T + 10 ∧ b ≠ T + 11) : putG σ T g x y w e b = σ b := by
  obtain ⟨h6, h7, h8, h9, h10, h11⟩ := h
  unfold putG gp3 gp2 gp1
  rw [z_up_ne _ _ _ h6, z_row_ne h11, z_row_ne h11, z_up_ne _ _ _ h10, z_up_ne _ _ _ h9, z_up_ne _ _ _ h8, z_up_ne _ _ _ h7]
theorem putG_6 {g e : Nat} : putG σ T g x y w e (T + 6) 5 = nI (g + 1) := by unfold putG; rw [z_up_s]
theorem putG_7 {g e : Nat} : putG σ T g x y w e (T + 7) = va_up (σ (T + 7)) g x := by
  unfold putG gp3 gp2 gp1
  rw [z_up_ne _ _ _ (by omega), z_row_ne (by omega), z_row_ne (by omega), z_up_ne _ _ _ (by omega), z_up_ne _ _ _ (by omega), z_up_ne _ _ _ (by omega), z_up_row]
theorem putG_8 {g e : Nat} : putG σ T g x y w e (T + 8) = va_up (σ (T + 8)) g y := by
  unfold putG gp3 gp2 gp1
  rw [z_up_ne _ _ _ (by omega), z_row_ne (by omega), z_row_ne (by omega), z_up_ne _ _ _ (by omega), z_up_ne _ _ _ (by omega), z_up_row, z_up_ne _ _ _ (by omega)]
theorem putG_9 {g e : Nat} : putG σ T g x y w e (T + 9) = va_up (σ (T + 9)) g w := by
  unfold putG gp3 gp2 gp1
  rw [z_up_ne _ _ _ (by omega), z_row_ne (by omega), z_row_ne (by omega), z_up_ne _ _ _ (by omega), z_up_row, z_up_ne _ _ _ (by omega), z_up_ne _ _ _ (by omega)]
theorem putG_10 {g e : Nat} : putG σ T g x y w e (T + 10) = va_up (σ (T + 10)) g (nI e) := by
  unfold putG gp3 gp2 gp1
  rw [z_up_ne _ _ _ (by omega), z_row_ne (by omega), z_row_ne (by omega), z_up_row, z_up_ne _ _ _ (by omega), z_up_ne _ _ _ (by omega), z_up_ne _ _ _ (by omega)]
theorem putG_11 {g e : Nat} (hT : 28 ≤ T) : putG σ T g x y w e (T + 11) = va_cpy (σ 22) (va_cpy (σ 21) (σ (T + 11)) 0 (g * 12) 6) 0 (g * 12 + 6) e := by
  have a1 : gp1 σ T g x y w e (T + 11) = σ (T + 11) := by
    unfold gp1
    rw [z_up_ne _ _ _ (by omega), z_up_ne _ _ _ (by omega), z_up_ne _ _ _ (by omega), z_up_ne _ _ _ (by omega)]
  have a2 : gp1 σ T g x y w e 21 = σ 21 := by
    unfold gp1
    rw [z_up_ne _ _ _ (by omega), z_up_ne _ _ _ (by omega), z_up_ne _ _ _ (by omega), z_up_ne _ _ _ (by omega)]
  have a3 : gp1 σ T g x y w e 22 = σ 22 := by
    unfold gp1
    rw [z_up_ne _ _ _ (by omega), z_up_ne _ _ _ (by omega), z_up_ne _ _ _ (by omega), z_up_ne _ _ _ (by omega)]
  unfold putG
  rw [z_up_ne _ _ _ (by omega)]
  unfold gp3
  rw [z_row_s]
  have b1 : gp2 (gp1 σ T g x y w e) T g 22 = σ 22 := by unfold gp2; rw [z_row_ne (by omega), a3]
  have b2 : gp2 (gp1 σ T g x y w e) T g (T + 11) = va_cpy (σ 21) (σ (T + 11)) 0 (g * 12) 6 := by unfold gp2; rw [z_row_s, a1, a2]
  rw [b1, b2]
/-- marks of a row in a row -/
def mkd (f : Nat → Int32) (a : Nat → Int32) : Nat → Nat → Int32
  | 0 => f
  | i + 1 => va_up (mkd f a i) (tN (a i)) 1
theorem mkd_iff {f a : Nat → Int32} (i v : Nat) : mkd f a i v = if (∃ j, j < i ∧ tN (a j) = v) then 1 else f v := by
  induction i with
  | zero => rw [if_neg (by rintro ⟨j, h, _⟩; omega)]; rfl
  | succ i ih =>
    unfold mkd
    rw [upE, ih]
    by_cases hv : v = tN (a i)
    · rw [if_pos hv, if_pos ⟨i, by omega, hv.symm⟩]
    · rw [if_neg hv]
      by_cases hj : ∃ j, j < i ∧ tN (a j) = v
      · obtain ⟨j, h1, h2⟩ := hj
        rw [if_pos ⟨j, h1, h2⟩, if_pos ⟨j, by omega, h2⟩]
      · rw [if_neg hj, if_neg]
        rintro ⟨j, h1, h2⟩
        by_cases hji : j = i
        · subst hji; exact hv h2.symm
        · exact hj ⟨j, by omega, h2⟩
theorem mkN_25 {a : Nat} (ha : a ≠ 25) (i : Nat) : mkN σ a i 25 = mkd (σ 25) (σ a) i := by
  induction i with
  | zero => rfl
  | succ i ih => rw [mkN_s, z_up_row, ih]; rfl
theorem mkR_c {c a : Nat} (i : Nat) : mkR σ c a i c = mkd (σ c) (σ a) i := by
  induction i with
  | zero => rfl
  | succ i ih => rw [mkR_s, z_up_row, ih]; rfl
theorem mkd_mkd_eq {f f' a a' : Nat → Int32} {i : Nat} (ha : ∀ j, j < i → a j = a' j) {P : Nat → Prop} (hf : ∀ v, P v → f v = f' v) (v : Nat) (hv : P v) : mkd f a i v = mkd f' a' i v := by
  rw [mkd_iff, mkd_iff, hf v hv]
  have : (∃ j, j < i ∧ tN (a j) = v) ↔ (∃ j, j < i ∧ tN (a' j) = v) := ⟨fun ⟨j, h1, h2⟩ => ⟨j, h1, by rw [← ha j h1]; exact h2⟩, fun ⟨j, h1, h2⟩ => ⟨j, h1, by rw [ha j h1]; exact h2⟩⟩
  by_cases h : ∃ j, j < i ∧ tN (a j) = v
  · rw [if_pos h, if_pos (this.mp h)]
  · rw [if_neg h, if_neg (fun q => h (this.mpr q))]
theorem gdN_o {g v e : Nat} (h : b ≠ 19 ∧ b ≠ 23 ∧ b ≠ 24 ∧ b ≠ 25) (h' : b ≠ T + 6 ∧ b ≠ T + 7 ∧ b ≠ T + 8 ∧ b ≠ T + 9 ∧ b ≠ T + 10 ∧ b ≠ T + 11) : gdN σ T g v y w e b = σ b := by
  unfold gdN
  rw [mkN_ne _ _ _ h.2.2.2, mkN_ne _ _ _ h.2.2.2]
  unfold gd3
  rw [z_up_ne _ _ _ h.2.2.2, cmS_o ⟨h.1, h.2.1, h.2.2.1⟩, putG_o h']
/-- of the guard's rows only what put writes -/
theorem gdN_p {g v e : Nat} (h : b ≠ 19 ∧ b ≠ 23 ∧ b ≠ 24 ∧ b ≠ 25) : gdN σ T g v y w e b = putG σ T g (nI v) y w e b := by
  unfold gdN
  rw [mkN_ne _ _ _ h.2.2.2, mkN_ne _ _ _ h.2.2.2]
  unfold gd3
  rw [z_up_ne _ _ _ h.2.2.2, cmS_o ⟨h.1, h.2.1, h.2.2.1⟩]
theorem gdN_c {g v e : Nat} (hT : 28 ≤ T) (h : b = 19 ∨ b = 23 ∨ b = 24) : gdN σ T g v y w e b = cmS σ 1 (nI g) b := by
  unfold gdN
  rw [mkN_ne _ _ _ (by omega), mkN_ne _ _ _ (by omega)]
  unfold gd3
  rw [z_up_ne _ _ _ (by omega)]
  have p : ∀ c, c < 28 → putG σ T g (nI v) y w e c = σ c := fun c hc => putG_o (by omega)
  unfold cmS
  rw [p 19 (by omega)]
  rcases h with rfl | rfl | rfl
  · rw [z_up_row, z_up_ne _ _ _ (by omega), z_up_ne _ _ _ (by omega), z_up_row, z_up_ne _ _ _ (by omega), z_up_ne _ _ _ (by omega), p 19 (by omega)]
  · rw [z_up_ne _ _ _ (by omega), z_up_ne _ _ _ (by omega), z_up_row, z_up_ne _ _ _ (by omega), z_up_ne _ _ _ (by omega), z_up_row, p 23 (by omega)]
  · rw [z_up_ne _ _ _ (by omega), z_up_row, z_up_ne _ _ _ (by omega), z_up_ne _ _ _ (by omega), z_up_row, z_up_ne _ _ _ (by omega), p 24 (by omega)]
theorem gdN_25 {g v e : Nat} (hT : 28 ≤ T) : gdN σ T g v y w e 25 = mkd (mkd (va_up (σ 25) v 1) (σ 21) 6) (σ 22) e := by
  have p : ∀ c, c < 28 → putG σ T g (nI v) y w e c = σ c := fun c hc => putG_o (by omega)
  have q21 : gd3 σ T g v y w e 21 = σ 21 := by unfold gd3; rw [z_up_ne _ _ _ (by omega), cmS_o (by omega), p 21 (by omega)]
  have q22 : gd3 σ T g v y w e 22 = σ 22 := by unfold gd3; rw [z_up_ne _ _ _ (by omega), cmS_o (by omega), p 22 (by omega)]
  have q25 : gd3 σ T g v y w e 25 = va_up (σ 25) v 1 := by unfold gd3; rw [z_up_row, cmS_o (by omega), p 25 (by omega)]
  unfold gdN
  rw [mkN_25 (by omega), mkN_25 (by omega), mkN_ne _ _ _ (by omega), q21, q22, q25]
theorem vlN_o {a c : Int32} (h : b ≠ 92 ∧ b ≠ 113 ∧ b ≠ 114 ∧ b ≠ 115 ∧ b ≠ 116 ∧ b ≠ 117 ∧ b ≠ 118 ∧ b ≠ 119) : vlN σ n k w a c b = σ b := by
  obtain ⟨h0, h1, h2, h3, h4, h5, h6, h7⟩ := h
  unfold vlN
  rw [z_up_ne _ _ _ h0, z_up_ne _ _ _ h7, z_up_ne _ _ _ h6, z_up_ne _ _ _ h5, z_up_ne _ _ _ h4, z_up_ne _ _ _ h3, z_up_ne _ _ _ h2, z_up_ne _ _ _ h1]
theorem vlN_92 {a c : Int32} {j : Nat} : vlN σ n k w a c 92 j = if j = 35 then nI (n + 1) else σ 92 j := by
  unfold vlN
  by_cases h : j = 35
  · rw [if_pos h, h, z_up_s]
  · rw [if_neg h, z_up_o _ _ (Or.inr h), z_up_ne _ _ _ (by omega), z_up_ne _ _ _ (by omega), z_up_ne _ _ _ (by omega), z_up_ne _ _ _ (by omega), z_up_ne _ _ _ (by omega), z_up_ne _ _ _ (by omega), z_up_ne _ _ _ (by omega)]
theorem vlN_r {a c : Int32} : vlN σ n k w a c 113 = va_up (σ 113) n k ∧ vlN σ n k w a c 114 = va_up (σ 114) n w ∧ vlN σ n k w a c 115 = va_up (σ 115) n a ∧ vlN σ n k w a c 116 = va_up (σ 116) n c ∧ vlN σ n k w a c 117 = va_up (σ 117) n 0 ∧ vlN σ n k w a c 118 = va_up (σ 118) n 0 ∧ vlN σ n k w a c 119 = va_up (σ 119) n 0 := by
  unfold vlN
  refine ⟨?_, ?_, ?_, ?_, ?_, ?_, ?_⟩ <;> funext j <;> simp [z_up, va_up]
end
