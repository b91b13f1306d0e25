/-! PART 73: the two makers' frames -/
theorem stp_all {P : Int32 → Prop} {op l e e1 : Nat} {w : Int32} {L S L1 S1 : Nat → Int32} (h : stp op l w L S e L1 S1 e1) (ht : tk op ≤ e) (hl : op = 1 → l < 6) (hL : ∀ i, i < 6 → P (L i)) (hS : ∀ s, s < e → P (S s)) (hw : op = 0 ∨ (3 ≤ op ∧ op ≤ 8) → P w) (ho : op < 16) : (∀ i, i < 6 → P (L1 i)) ∧ ∀ s, s < e1 → P (S1 s) := by
  have tk1 : op = 2 ∨ op = 9 → 1 ≤ tk op := by rintro (rfl | rfl) <;> decide
  have tk2 : op = 11 → tk op = 2 := by rintro rfl; decide
  have gvw : ¬ (op = 0 ∨ op = 1 ∨ (3 ≤ op ∧ op ≤ 8) ∨ op = 9 ∨ op = 11) → gv op = 0 := by
    intro hn
    have : op = 2 ∨ op = 10 ∨ op = 12 ∨ op = 13 ∨ op = 14 ∨ op = 15 := by omega
    rcases this with rfl | rfl | rfl | rfl | rfl | rfl <;> decide
  refine ⟨fun i hi => ?_, fun s hs => ?_⟩
  · rw [h.2.1 i hi]
    by_cases hc : op = 2 ∧ i = l
    · rw [if_pos hc]; exact hS _ (by have := tk1 (Or.inl hc.1); omega)
    · rw [if_neg hc]; exact hL i hi
  · rw [h.2.2 s hs]
    by_cases h1 : s < e - tk op
    · rw [if_pos h1]; exact hS s (by omega)
    · rw [if_neg h1]
      by_cases h2 : op = 1
      · rw [if_pos h2]; exact hL l (hl h2)
      · rw [if_neg h2]
        by_cases h3 : op = 9
        · rw [if_pos h3]; exact hS _ (by have := tk1 (Or.inr h3); omega)
        · rw [if_neg h3]
          by_cases h4 : op = 11
          · have := tk2 h4
            rw [if_pos h4]
            by_cases h5 : s = e - 2
            · rw [if_pos h5]; exact hS _ (by omega)
            · rw [if_neg h5]; exact hS _ (by omega)
          · rw [if_neg h4]
            apply hw
            have h0 := h.1
            by_cases h6 : op = 0 ∨ op = 1 ∨ (3 ≤ op ∧ op ≤ 8) ∨ op = 9 ∨ op = 11
            · rcases h6 with h6 | h6 | h6 | h6 | h6
              · exact Or.inl h6
              · exact absurd h6 h2
              · exact Or.inr h6
              · exact absurd h6 h3
              · exact absurd h6 h4
            · have := gvw h6; omega
theorem tr_lo (t : Nat) : 28 ≤ tr t := by unfold tr; omega
theorem tr_hi {t : Nat} (h : t < 4) : tr t + 16 ≤ 92 := by unfold tr; omega
/-- what follow pushes anew -/
def flW (σ : Nat → Nat → Int32) (T p op n e : Nat) : Int32 := if op = 0 then nI (shI σ T n 0 (σ 3 p) 0) else nI (cmb (po (po σ 20 (e - 1)) 20 (e - 2)) T n op (tN (σ 22 (e - 2))) (tN (σ 22 (e - 1)))).1
theorem fl_frame {σ : Nat → Nat → Int32} {t p op n e : Nat} {y : Int32} (ho : op < 15) (ht : tk op ≤ e) (hg : σ 20 2 = nI e) : stp op (tN (σ 3 p)) (flW σ (tr t) p op n e) (σ 21) (σ 22) e (flO σ (tr t) p y op n e 21) (flO σ (tr t) p y op n e 22) (e - tk op + gv op) ∧ flO σ (tr t) p y op n e 20 2 = nI (e - tk op + gv op) := by
  have c21 : ∀ {σ : Nat → Nat → Int32} {a b : Nat}, (cmb σ (tr t) n op a b).2 21 = σ 21 := cmb_lo (by omega)
  have c22 : ∀ {σ : Nat → Nat → Int32} {a b : Nat}, (cmb σ (tr t) n op a b).2 22 = σ 22 := cmb_lo (by omega)
  have s21 : ∀ {σ : Nat → Nat → Int32} {k l r : Int32}, shS σ (tr t) n k l r 21 = σ 21 := shS_lo (by omega)
  have s22 : ∀ {σ : Nat → Nat → Int32} {k l r : Int32}, shS σ (tr t) n k l r 22 = σ 22 := shS_lo (by omega)
  have g20 : ∀ {σ : Nat → Nat → Int32} {v : Nat} {y w : Int32}, gdS σ (tr t) v y w 20 = σ 20 := gdS_lo (by omega)
  have g21 : ∀ {σ : Nat → Nat → Int32} {v : Nat} {y w : Int32}, gdS σ (tr t) v y w 21 = σ 21 := gdS_lo (by omega)
  have g22 : ∀ {σ : Nat → Nat → Int32} {v : Nat} {y w : Int32}, gdS σ (tr t) v y w 22 = σ 22 := gdS_lo (by omega)
  rcases op16 (Nat.lt_succ_of_lt ho) with rfl | rfl | rfl | rfl | rfl | rfl | rfl | rfl | rfl | rfl | rfl | rfl | rfl | rfl | rfl | rfl
  all_goals (simp only [tk, gv, List.getD_cons_succ, List.getD_cons_zero] at ht ⊢)
  all_goals (refine ⟨⟨rfl, fun i hi => ?_, fun s hs => ?_⟩, ?_⟩)
  all_goals (simp [flO, flW, pu, z_up, tk, hg, c21, c22, s21, s22, g20, g21, g22, cmS_ne, po] <;> (try split) <;> (try simp_all) <;> (try omega))
  all_goals (try (congr 1; omega))
  all_goals (repeat' split)
  all_goals (first | rfl | omega | (congr 1; omega) | (simp_all; done) | (simp_all; congr 1; omega) | (intro q; congr 1; omega))
/-- Java's through, in one -/
def thW (σ : Nat → Nat → Int32) (j : Nat) : Int32 := if σ 102 j = 0 then 1 else nI 2
def thO (σ : Nat → Nat → Int32) (j k op n e : Nat) : Int32 × (Nat → Nat → Int32) :=
  if op = 0 then (0, hg (z_up (vlS (hg σ e) n 0 (σ 94 k) 0 0) 121 e (nI (vlI (hg σ e) n 0 (σ 94 k) 0 0))) (e + 1))
  else if op = 1 then (0, hg (z_up (hg σ e) 121 e (σ 120 (tN (σ 94 k)))) (e + 1))
  else if op = 2 then (0, hg (z_up (hg σ (e - 1)) 120 (tN (σ 94 k)) (σ 121 (e - 1))) (e - 1))
  else if op ≤ 8 then (if (cal (hg σ (e - 2)) n op (tN (σ 121 (e - 2))) (tN (σ 121 (e - 1)))).2 92 35 = nI (n + 1) ∧ (cal (hg σ (e - 2)) n op (tN (σ 121 (e - 2))) (tN (σ 121 (e - 1)))).2 113 n = nI 2 then -3 - nI n else 0,
    hg (z_up (cal (hg σ (e - 2)) n op (tN (σ 121 (e - 2))) (tN (σ 121 (e - 1)))).2 121 (e - 2) (nI (cal (hg σ (e - 2)) n op (tN (σ 121 (e - 2))) (tN (σ 121 (e - 1)))).1)) (e - 1))
  else if op = 9 then (0, hg (z_up (z_up (hg σ (e - 1)) 121 (e - 1) (σ 121 (e - 1))) 121 e (σ 121 (e - 1))) (e + 1))
  else if op = 10 then (0, hg (hg σ (e - 1)) (e - 1))
  else if op = 11 then (0, hg (z_up (z_up (hg σ (e - 2)) 121 (e - 2) (σ 121 (e - 1))) 121 (e - 1) (σ 121 (e - 2))) e)
  else if op = 12 then (nI 2, z_up (hg (hg σ (e - 1)) (e - 1)) 117 (tN (σ 121 (e - 1))) 1)
  else if op = 13 then (0, hg (hg σ e) e)
  else if σ 113 (tN (σ 121 (e - 1))) ≤ 0 ∨ ¬ σ 119 (tN (σ 121 (e - 1))) &&& thW σ j = 0 then (0, hg (hg σ (e - 1)) (e - 1))
  else (1, picS (z_up (z_up (hg (hg σ (e - 1)) (e - 1)) 119 (tN (σ 121 (e - 1))) (σ 119 (tN (σ 121 (e - 1))) ||| thW σ j)) 117 (tN (σ 121 (e - 1))) 1) (e - 1))
def thV (σ : Nat → Nat → Int32) (k op n e : Nat) : Int32 := if op = 0 then nI (vlI (hg σ e) n 0 (σ 94 k) 0 0) else nI (cal (hg σ (e - 2)) n op (tN (σ 121 (e - 2))) (tN (σ 121 (e - 1)))).1
theorem picS_ne {σ : Nat → Nat → Int32} {e b : Nat} (h : b ≠ 117) : picS σ e b = σ b := by unfold picS; rw [mkR_ne _ _ _ _ h, mkR_ne _ _ _ _ h]
theorem th14 {σ : Nat → Nat → Int32} {j k n e b : Nat} (hb : b ≠ 92 ∧ b ≠ 117 ∧ b ≠ 119) : (thO σ j k 14 n e).2 b = σ b ∧ (thO σ j k 14 n e).2 92 44 = nI (e - 1) ∧ ∀ i, i ≠ 44 → (thO σ j k 14 n e).2 92 i = σ 92 i := by
  unfold thO
  simp only [Nat.reduceEqDiff, if_false, Nat.reduceLeDiff]
  by_cases hc : σ 113 (tN (σ 121 (e - 1))) ≤ 0 ∨ ¬ σ 119 (tN (σ 121 (e - 1))) &&& thW σ j = 0
  · rw [if_pos hc]
    simp only [hg]
    refine ⟨by rw [z_up_ne _ _ _ hb.1, z_up_ne _ _ _ hb.1], by rw [z_up_s], fun i hi => by rw [z_up_o _ _ (Or.inr hi), z_up_o _ _ (Or.inr hi)]⟩
  · rw [if_neg hc]
    simp only [hg]
    refine ⟨by rw [picS_ne hb.2.1, z_up_ne _ _ _ hb.2.1, z_up_ne _ _ _ hb.2.2, z_up_ne _ _ _ hb.1, z_up_ne _ _ _ hb.1], by rw [picS_ne (by omega), z_up_ne _ _ _ (by omega), z_up_ne _ _ _ (by omega), z_up_s], fun i hi => by rw [picS_ne (by omega), z_up_ne _ _ _ (by omega), z_up_ne _ _ _ (by omega), z_up_o _ _ (Or.inr hi), z_up_o _ _ (Or.inr hi)]⟩
theorem th_frame {σ : Nat → Nat → Int32} {j k op n e : Nat} (ho : op < 15) (ht : tk op ≤ e) (he : σ 92 44 = nI e) : stp op (tN (σ 94 k)) (thV σ k op n e) (σ 120) (σ 121) e ((thO σ j k op n e).2 120) ((thO σ j k op n e).2 121) (e - tk op + gv op) ∧ (thO σ j k op n e).2 92 44 = nI (e - tk op + gv op) := by
  have c21 : ∀ {σ : Nat → Nat → Int32} {a b : Nat}, (cal σ n op a b).2 120 = σ 120 := cal_ne (by omega)
  have c22 : ∀ {σ : Nat → Nat → Int32} {a b : Nat}, (cal σ n op a b).2 121 = σ 121 := cal_ne (by omega)
  have s21 : ∀ {σ : Nat → Nat → Int32} {k l r u : Int32}, vlS σ n k l r u 120 = σ 120 := vlS_ne (by omega)
  have s22 : ∀ {σ : Nat → Nat → Int32} {k l r u : Int32}, vlS σ n k l r u 121 = σ 121 := vlS_ne (by omega)
  have q1 := @th14 σ j k n e 120 (by omega)
  have q2 := @th14 σ j k n e 121 (by omega)
  rcases op16 (Nat.lt_succ_of_lt ho) with rfl | rfl | rfl | rfl | rfl | rfl | rfl | rfl | rfl | rfl | rfl | rfl | rfl | rfl | rfl | rfl
  all_goals (simp only [tk, gv, List.getD_cons_succ, List.getD_cons_zero] at ht ⊢)
  all_goals (refine ⟨⟨rfl, fun i hi => ?_, fun s hs => ?_⟩, ?_⟩)
  all_goals (try (rw [q1.1]; simp; done))
  all_goals (try (rw [q2.1]; simp [tk]; omega))
  all_goals (try (exact q1.2.1))
  all_goals (simp [thO, thV, hg, z_up, tk, he, c21, c22, s21, s22] <;> (try split) <;> (try simp_all) <;> (try omega))
  all_goals (try (congr 1; omega))
  all_goals (repeat' split)
  all_goals (first | rfl | omega | (congr 1; omega) | (simp_all; done) | (simp_all; congr 1; omega) | (intro q; congr 1; omega))
