/-! PART 71: one instruction, in the class and in the reference -/
/-- one instruction on locals, stack and depth: l is its operand as a number, w what it pushes anew -/
def stp (op l : Nat) (w : Int32) (L S : Nat → Int32) (e : Nat) (L' S' : Nat → Int32) (e' : Nat) : Prop :=
  e' = e - tk op + gv op ∧ (∀ i, i < 6 → L' i = if op = 2 ∧ i = l then S (e - 1) else L i) ∧ ∀ s, s < e' → S' s = if s < e - tk op then S s else if op = 1 then L l else if op = 9 then S (e - 1) else if op = 11 then (if s = e - 2 then S (e - 1) else S (e - 2)) else w
theorem stp_rel {f : Int32 → Int32} {op l e e1 e2 : Nat} {w w' : Int32} {L S L1 S1 M Q M1 Q1 : Nat → Int32} (h : stp op l w L S e L1 S1 e1) (h' : stp op l w' M Q e M1 Q1 e2) (ht : tk op ≤ e) (hl : op = 1 → l < 6) (hL : ∀ i, i < 6 → L i = f (M i)) (hS : ∀ s, s < e → S s = f (Q s)) (hw : op = 0 ∨ (3 ≤ op ∧ op ≤ 8) → w = f w') (ho : op < 16) : e1 = e2 ∧ (∀ i, i < 6 → L1 i = f (M1 i)) ∧ ∀ s, s < e1 → S1 s = f (Q1 s) := by
  have tk1 : op = 2 ∨ op = 9 → 1 ≤ tk op := by rintro (rfl | rfl) <;> decide
  have tk2 : op = 11 → tk op = 2 := by rintro rfl; decide
  have gvw : ¬ (op = 0 ∨ op = 1 ∨ (3 ≤ op ∧ op ≤ 8) ∨ op = 9 ∨ op = 11) → gv op = 0 := by
    intro hn
    have : op = 2 ∨ op = 10 ∨ op = 12 ∨ op = 13 ∨ op = 14 ∨ op = 15 := by omega
    rcases this with rfl | rfl | rfl | rfl | rfl | rfl <;> decide
  refine ⟨h.1.trans h'.1.symm, fun i hi => ?_, fun s hs => ?_⟩
  · rw [h.2.1 i hi, h'.2.1 i hi]
    by_cases hc : op = 2 ∧ i = l
    · rw [if_pos hc, if_pos hc]; exact hS _ (by have := tk1 (Or.inl hc.1); omega)
    · rw [if_neg hc, if_neg hc]; exact hL i hi
  · have hs2 : s < e2 := by rw [h'.1, ← h.1]; exact hs
    rw [h.2.2 s hs, h'.2.2 s hs2]
    by_cases h1 : s < e - tk op
    · rw [if_pos h1, if_pos h1]; exact hS s (by omega)
    · rw [if_neg h1, if_neg h1]
      by_cases h2 : op = 1
      · rw [if_pos h2, if_pos h2]; exact hL l (hl h2)
      · rw [if_neg h2, if_neg h2]
        by_cases h3 : op = 9
        · rw [if_pos h3, if_pos h3]; exact hS _ (by have := tk1 (Or.inr h3); omega)
        · rw [if_neg h3, if_neg h3]
          by_cases h4 : op = 11
          · have := tk2 h4
            rw [if_pos h4, if_pos h4]
            by_cases h5 : s = e - 2
            · rw [if_pos h5, if_pos h5]; exact hS _ (by omega)
            · rw [if_neg h5, if_neg h5]; exact hS _ (by omega)
          · rw [if_neg h4, if_neg h4]
            apply hw
            have h0 := h.1
            by_cases h6 : op = 0 ∨ op = 1 ∨ (3 ≤ op ∧ op ≤ 8) ∨ op = 9 ∨ op = 11
            · rcases h6 with h6 | h6 | h6 | h6 | h6
              · exact Or.inl h6
              · exact absurd h6 h2
              · exact Or.inr h6
              · exact absurd h6 h3
              · exact absurd h6 h4
            · have := gvw h6; omega
/-- what CONST or an operation of two pushes -/
def wv (op : Nat) (x : Int32) (S : Nat → Int32) (e : Nat) : Int32 := if op = 0 then x else wk op (S (e - 2)) (S (e - 1))
/-- Java's execute, in one -/
def exO (σ : Nat → Nat → Int32) (a op e : Nat) : Int32 × (Nat → Nat → Int32) :=
  if op = 0 then (0, pu (z_up σ 6 3 (nI (a + 1))) 6 e (σ 3 a))
  else if op = 1 then (0, pu (z_up σ 6 3 (nI (a + 1))) 6 e (σ 7 (tN (σ 3 a))))
  else if op = 2 then (0, z_up (po (z_up σ 6 3 (nI (a + 1))) 6 (e - 1)) 7 (tN (σ 3 a)) (σ 8 (e - 1)))
  else if op ≤ 8 then (0, pu (po (po (z_up σ 6 3 (nI (a + 1))) 6 (e - 1)) 6 (e - 2)) 6 (e - 2) (wk op (σ 8 (e - 2)) (σ 8 (e - 1))))
  else if op = 9 then (0, pu (pu (po (z_up σ 6 3 (nI (a + 1))) 6 (e - 1)) 6 (e - 1) (σ 8 (e - 1))) 6 e (σ 8 (e - 1)))
  else if op = 10 then (0, po (z_up σ 6 3 (nI (a + 1))) 6 (e - 1))
  else if op = 11 then (0, pu (pu (po (po (z_up σ 6 3 (nI (a + 1))) 6 (e - 1)) 6 (e - 2)) 6 (e - 2) (σ 8 (e - 1))) 6 (e - 1) (σ 8 (e - 2)))
  else if op = 12 then (0, gvS (po (z_up σ 6 3 (nI (a + 1))) 6 (e - 1)) (σ 8 (e - 1)))
  else if op = 13 then (1, z_up (z_up σ 6 3 (nI (a + 1))) 6 3 (σ 3 a))
  else if op = 14 then (b2i (σ 8 (e - 1) ≠ 0), z_up (po (z_up σ 6 3 (nI (a + 1))) 6 (e - 1)) 6 3 (if σ 8 (e - 1) = 0 then nI (a + 1) else σ 3 a))
  else (0, hlS (z_up σ 6 3 (nI (a + 1))))
/-- where it goes on -/
def nxt (op a : Nat) (x t : Int32) : Int32 := if op = 13 then x else if op = 14 then (if t = 0 then nI (a + 1) else x) else nI (a + 1)
theorem op16 {op : Nat} (h : op < 16) : op = 0 ∨ op = 1 ∨ op = 2 ∨ op = 3 ∨ op = 4 ∨ op = 5 ∨ op = 6 ∨ op = 7 ∨ op = 8 ∨ op = 9 ∨ op = 10 ∨ op = 11 ∨ op = 12 ∨ op = 13 ∨ op = 14 ∨ op = 15 := by omega
theorem ex_frame {σ : Nat → Nat → Int32} {a op e : Nat} (ho : op < 16) (ht : tk op ≤ e) (hg : σ 6 2 = nI e) : stp op (tN (σ 3 a)) (wv op (σ 3 a) (σ 8) e) (σ 7) (σ 8) e ((exO σ a op e).2 7) ((exO σ a op e).2 8) (e - tk op + gv op) ∧ (exO σ a op e).2 6 2 = nI (e - tk op + gv op) ∧ (exO σ a op e).2 6 3 = nxt op a (σ 3 a) (σ 8 (e - 1)) := by
  rcases op16 ho with rfl | rfl | rfl | rfl | rfl | rfl | rfl | rfl | rfl | rfl | rfl | rfl | rfl | rfl | rfl | rfl
  all_goals (simp only [tk, gv, List.getD_cons_succ, List.getD_cons_zero] at ht ⊢)
  all_goals (refine ⟨⟨rfl, fun i hi => ?_, fun s hs => ?_⟩, ?_, ?_⟩)
  all_goals (simp [exO, pu, po, gvS, hlS, guS, z_up, tk, wv, nxt, hg] <;> (try split) <;> (try simp_all) <;> (try omega))
  all_goals (try (simp [z_up, hg]; done))
  all_goals (try (congr 1; omega))
  all_goals (repeat' split)
  all_goals (first | rfl | omega | (congr 1; omega) | (simp_all; done) | (simp_all; congr 1; omega))

theorem gvS_ne {σ : Nat → Nat → Int32} {x : Int32} {b : Nat} (h9 : b ≠ 9) (h10 : b ≠ 10) : gvS σ x b = σ b := by
  simp only [gvS, z_up_ne, h9, h10, ne_eq, not_false_eq_true]
theorem hlS_ne {σ : Nat → Nat → Int32} {b : Nat} (h0 : b ≠ 0) (h14 : b ≠ 14) (h16 : b ≠ 16) : hlS σ b = σ b := by
  unfold hlS
  by_cases hc : σ 16 2 = -1
  · rw [if_pos hc, z_up_ne _ _ _ h0]
  · rw [if_neg hc]
    simp only [guS, z_up_ne, h0, h14, h16, ne_eq, not_false_eq_true]
theorem ex_ne {σ : Nat → Nat → Int32} {a op e b : Nat} (ho : op < 16) (h : b ≠ 0 ∧ b ≠ 6 ∧ b ≠ 7 ∧ b ≠ 8 ∧ b ≠ 9 ∧ b ≠ 10 ∧ b ≠ 14 ∧ b ≠ 16) : (exO σ a op e).2 b = σ b := by
  obtain ⟨h0, h6, h7, h8, h9, h10, h14, h16⟩ := h
  rcases op16 ho with rfl | rfl | rfl | rfl | rfl | rfl | rfl | rfl | rfl | rfl | rfl | rfl | rfl | rfl | rfl | rfl
  all_goals (simp [exO, pu, po, gvS_ne, hlS_ne, z_up_ne, h0, h6, h7, h8, h9, h10, h14, h16])
theorem ex_ne15 {σ : Nat → Nat → Int32} {a op e b : Nat} (ho : op < 15) (h : b = 0 ∨ b = 14 ∨ b = 16) : (exO σ a op e).2 b = σ b := by
  have h6 : b ≠ 6 := by omega
  have h7 : b ≠ 7 := by omega
  have h8 : b ≠ 8 := by omega
  have h9 : b ≠ 9 := by omega
  have h10 : b ≠ 10 := by omega
  rcases op16 (Nat.lt_succ_of_lt ho) with rfl | rfl | rfl | rfl | rfl | rfl | rfl | rfl | rfl | rfl | rfl | rfl | rfl | rfl | rfl | rfl
  all_goals (first | omega | (simp [exO, pu, po, gvS_ne, z_up_ne, h6, h7, h8, h9, h10]))
theorem ex_ne12 {σ : Nat → Nat → Int32} {a op e b : Nat} (ho : op < 16) (ho2 : op ≠ 12) (h : b = 9 ∨ b = 10) : (exO σ a op e).2 b = σ b := by
  have h6 : b ≠ 6 := by omega
  have h7 : b ≠ 7 := by omega
  have h8 : b ≠ 8 := by omega
  have h0 : b ≠ 0 := by omega
  have h14 : b ≠ 14 := by omega
  have h16 : b ≠ 16 := by omega
  rcases op16 ho with rfl | rfl | rfl | rfl | rfl | rfl | rfl | rfl | rfl | rfl | rfl | rfl | rfl | rfl | rfl | rfl
  all_goals (first | exact absurd rfl ho2 | (simp [exO, pu, po, hlS_ne, z_up_ne, h6, h7, h8, h0, h14, h16]))
theorem ex_r {σ : Nat → Nat → Int32} {a op e : Nat} (ho : op < 16) : (exO σ a op e).1 = b2i (op = 13 ∨ (op = 14 ∧ σ 8 (e - 1) ≠ 0)) := by
  rcases op16 ho with rfl | rfl | rfl | rfl | rfl | rfl | rfl | rfl | rfl | rfl | rfl | rfl | rfl | rfl | rfl | rfl
  all_goals (simp [exO, b2i])
theorem ex_12 {σ : Nat → Nat → Int32} {a e : Nat} : (exO σ a 12 e).2 9 = gvS σ (σ 8 (e - 1)) 9 ∧ (exO σ a 12 e).2 10 = gvS σ (σ 8 (e - 1)) 10 := by
  refine ⟨funext fun j => ?_, funext fun j => ?_⟩ <;> simp [exO, gvS, po, z_up]
theorem ex_15 {σ : Nat → Nat → Int32} {a e : Nat} : (exO σ a 15 e).2 = hlS (z_up σ 6 3 (nI (a + 1))) := rfl
theorem ds_12 {σ : Nat → Nat → Int32} {k e : Nat} : (dsO σ k 12 e).2 98 = rgv σ (σ 97 (e - 1)) 98 ∧ (dsO σ k 12 e).2 92 11 = rgv σ (σ 97 (e - 1)) 92 11 := by
  refine ⟨funext fun j => ?_, ?_⟩ <;> simp [dsO, rgv, shf, z_row, rpo, z_up]
theorem ds_frame {σ : Nat → Nat → Int32} {k op e : Nat} (ho : op < 16) (ht : tk op ≤ e) (hg : σ 92 9 = nI e) : stp op (tN (σ 94 k)) (wv op (σ 94 k) (σ 97) e) (σ 96) (σ 97) e ((dsO σ k op e).2 96) ((dsO σ k op e).2 97) (e - tk op + gv op) ∧ (dsO σ k op e).2 92 9 = nI (e - tk op + gv op) ∧ (dsO σ k op e).1 = if op = 15 then -1 else nxt op k (σ 94 k) (σ 97 (e - 1)) := by
  rcases op16 ho with rfl | rfl | rfl | rfl | rfl | rfl | rfl | rfl | rfl | rfl | rfl | rfl | rfl | rfl | rfl | rfl
  all_goals (simp only [tk, gv, List.getD_cons_succ, List.getD_cons_zero] at ht ⊢)
  all_goals (refine ⟨⟨rfl, fun i hi => ?_, fun s hs => ?_⟩, ?_, ?_⟩)
  all_goals (simp [dsO, rpu, rpo, rgv, shf, z_row, z_up, tk, wv, nxt, hg] <;> (try split) <;> (try simp_all) <;> (try omega))
  all_goals (try (simp [z_up, hg]; done))
  all_goals (try (congr 1; omega))
  all_goals (repeat' split)
  all_goals (first | rfl | omega | (congr 1; omega) | (simp_all; done) | (simp_all; congr 1; omega) | (intro q; congr 1; omega))
theorem ds_ne12 {σ : Nat → Nat → Int32} {k op e : Nat} (ho : op < 16) (ho2 : op ≠ 12) : (dsO σ k op e).2 98 = σ 98 ∧ (dsO σ k op e).2 92 11 = σ 92 11 := by
  rcases op16 ho with rfl | rfl | rfl | rfl | rfl | rfl | rfl | rfl | rfl | rfl | rfl | rfl | rfl | rfl | rfl | rfl
  all_goals (first | exact absurd rfl ho2 | (simp [dsO, rpu, rpo, z_up_ne, z_up_o]))
/-- the numbers given out: the class's ring against the reference's row -/
def GV (σ ρ : Nat → Nat → Int32) : Prop := ∃ e m, e < 30 ∧ σ 9 1 = nI e ∧ σ 9 2 = nI m ∧ ρ 92 11 = nI m ∧ ∀ j, j < 30 → j < m → σ 10 ((e + 30 - j) % 30) = ρ 98 j
theorem GV.to {σ ρ σ' ρ' : Nat → Nat → Int32} (h : GV σ ρ) (h9 : σ' 9 = σ 9) (h10 : σ' 10 = σ 10) (h11 : ρ' 92 11 = ρ 92 11) (h98 : ρ' 98 = ρ 98) : GV σ' ρ' := by
  obtain ⟨e, m, g⟩ := h
  exact ⟨e, m, by rw [h9, h10, h11, h98]; exact g⟩
theorem GV.give {σ ρ : Nat → Nat → Int32} (h : GV σ ρ) (x : Int32) : GV (gvS σ x) (rgv ρ x) := by
  obtain ⟨e, m, he, h1, h2, h3, hr⟩ := h
  have et : tN (σ 9 1) = e := by rw [h1]; exact tN_nI (by omega)
  refine ⟨(e + 1) % 30, m + 1, Nat.mod_lt _ (by omega), ?_, ?_, ?_, fun j hj hm => ?_⟩
  · simp [gvS, z_up, et]
  · simp [gvS, z_up, h2, nI_1]
  · simp [rgv, z_up, shf, z_row, h3, nI_1]
  · have r10 : gvS σ x 10 = va_up (σ 10) ((e + 1) % 30) x := by
      unfold gvS
      rw [z_up_ne _ _ _ (by omega), z_up_row, z_up_ne _ _ _ (by omega), et]
    have r98 : rgv ρ x 98 = va_up (shf ρ 0 98) 0 x := by
      unfold rgv
      rw [z_up_ne _ _ _ (by omega), z_up_row]
    rw [r10, r98, upE, upE]
    by_cases hj0 : j = 0
    · subst hj0
      rw [if_pos (by omega), if_pos rfl]
    · rw [if_neg (by omega), if_neg hj0]
      have : shf ρ 0 98 j = ρ 98 (j - 1) := by
        simp [shf, z_row]; omega
      rw [this, ← hr (j - 1) (by omega) (by omega)]
      congr 1
      omega
theorem GV.e30 {σ ρ : Nat → Nat → Int32} (h : GV σ ρ) : ∃ e, e < 30 ∧ σ 9 1 = nI e := by
  obtain ⟨e, m, he, h1, _⟩ := h
  exact ⟨e, he, h1⟩
theorem GV.out {σ ρ : Nat → Nat → Int32} (h : GV σ ρ) : σ 9 2 = ρ 92 11 := by
  obtain ⟨e, m, he, h1, h2, h3, _⟩ := h
  rw [h2, h3]
theorem GV.at {σ ρ : Nat → Nat → Int32} (h : GV σ ρ) {j e : Nat} (hj : j < 30) (hm : ¬ σ 9 2 ≤ nI j) (he : σ 9 1 = nI e) (hel : e < 30) : σ 10 ((e + 30 - j) % 30) = ρ 98 j := by
  obtain ⟨e', m, he', h1, h2, h3, hr⟩ := h
  have : e' = e := nI_inj (h1.symm.trans he) (by omega) (by omega)
  subst this
  by_cases hjm : j < m
  · exact hr j hj hjm
  · exact absurd (by rw [h2]; exact nI_le (by omega) (by omega)) hm
