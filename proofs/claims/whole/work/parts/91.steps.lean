/-! PART 91: Java's execute and through, in one -/
theorem sp_exO {d : Nat} {σ : Nat → Nat → Int32} {τ : Nat → Nat → Int64} {a op e : Nat} (ha : σ 6 3 = nI a) (hop : σ 2 a = nI op) (ho : op < 16) (he : σ 6 2 = nI e) (he6 : e ≤ 6) (htk : tk op ≤ e) (hgv : e - tk op + gv op ≤ 6) (hx : op = 1 ∨ op = 2 → tN (σ 3 a) < 6 ∧ σ 3 a = nI (tN (σ 3 a))) (hn : ∃ q, q < 30 ∧ σ 9 1 = nI q) (hr : σ 16 2 = -1 ∨ ∃ p, p < 40 ∧ σ 16 2 = nI p) : z_MV M_X10_execute (d + 3) 0 0 [.ref 0, .int (σ 2 a), .int (σ 3 a)] (124, z_r0, σ, τ) (some (.int (exO σ a op e).1)) (124, z_r0, (exO σ a op e).2, τ) := by
  rw [hop]
  have one : 1 ≤ tk op → ∃ e', e = e' + 1 := fun h => ⟨e - 1, by omega⟩
  have two : 2 ≤ tk op → ∃ e', e = e' + 2 := fun h => ⟨e - 2, by omega⟩
  rcases op16 ho with rfl | rfl | rfl | rfl | rfl | rfl | rfl | rfl | rfl | rfl | rfl | rfl | rfl | rfl | rfl | rfl
  · exact sp_ex0 ha he (by have : e - 0 + 1 ≤ 6 := hgv; omega)
  · obtain ⟨hl, hxl⟩ := hx (Or.inl rfl)
    have q := sp_ex1 (d := d) (τ := τ) (x := 0) ha he (by have : e - 0 + 1 ≤ 6 := hgv; omega) hl
    rw [← hxl] at q
    exact q
  · obtain ⟨hl, hxl⟩ := hx (Or.inr rfl)
    obtain ⟨e', rfl⟩ := one (by decide)
    have q := sp_ex2 (d := d) (τ := τ) (x := 0) ha he (by omega) hl
    rw [← hxl] at q
    exact q
  · obtain ⟨e', rfl⟩ := two (by decide)
    exact sp_ex3 ha he (by omega)
  · obtain ⟨e', rfl⟩ := two (by decide)
    exact sp_ex4 ha he (by omega)
  · obtain ⟨e', rfl⟩ := two (by decide)
    exact sp_ex5 ha he (by omega)
  · obtain ⟨e', rfl⟩ := two (by decide)
    exact sp_ex6 ha he (by omega)
  · obtain ⟨e', rfl⟩ := two (by decide)
    exact sp_ex7 ha he (by omega)
  · obtain ⟨e', rfl⟩ := two (by decide)
    exact sp_ex8 ha he (by omega)
  · obtain ⟨e', rfl⟩ := one (by decide)
    exact sp_ex9 ha he (by have : e' + 1 - 1 + 2 ≤ 6 := hgv; omega)
  · obtain ⟨e', rfl⟩ := one (by decide)
    exact sp_ex10 ha he (by omega)
  · obtain ⟨e', rfl⟩ := two (by decide)
    exact sp_ex11 ha he (by omega)
  · obtain ⟨e', rfl⟩ := one (by decide)
    exact sp_ex12 ha he (by omega) hn
  · exact sp_ex13 (e := e) ha
  · obtain ⟨e', rfl⟩ := one (by decide)
    exact sp_ex14 ha he (by omega)
  · exact sp_ex15 (e := e) ha hr
theorem cal_35 {σ : Nat → Nat → Int32} {n op a b : Nat} (h : σ 92 35 = nI n) : (cal σ n op a b).2 92 35 = nI n ∨ (cal σ n op a b).2 92 35 = nI (n + 1) := by
  have v : ∀ k w x y, vlS σ n k w x y 92 35 = nI n ∨ vlS σ n k w x y 92 35 = nI (n + 1) := by
    intro k w x y
    unfold vlS
    by_cases q : vlI σ n k w x y < n
    · rw [if_pos q]; exact Or.inl h
    · rw [if_neg q, vlN_92, if_pos rfl]; exact Or.inr rfl
  unfold cal
  by_cases q : σ 113 a = 0 ∧ σ 113 b = 0
  · rw [if_pos q]; exact v _ _ _ _
  · rw [if_neg q]; exact v _ _ _ _
/-- what through asks -/
def thOK (σ : Nat → Nat → Int32) (j k op n e : Nat) : Prop := j < 30 ∧ σ 101 j = nI k ∧ k < 40 ∧ σ 92 35 = nI n ∧ n < 40 ∧ σ 93 k = nI op ∧ op < 15 ∧ σ 92 44 = nI e ∧ e ≤ 6 ∧ tk op ≤ e ∧ e - tk op + gv op ≤ 6 ∧ (∀ l, l < 6 → ∃ q, q < 40 ∧ σ 120 l = nI q) ∧ (∀ s, s < e → ∃ q, q < 40 ∧ σ 121 s = nI q) ∧ (op = 1 ∨ op = 2 → tN (σ 94 k) < 6 ∧ σ 94 k = nI (tN (σ 94 k)))
set_option maxHeartbeats 1000000 in
theorem sp_thO {d : Nat} {σ : Nat → Nat → Int32} {τ : Nat → Nat → Int64} {j k op n e : Nat} (h : thOK σ j k op n e) : z_MV M_X11_through (d + 2) 0 0 [.ref 92, .int (nI j)] (124, z_r0, σ, τ) (some (.int (thO σ j k op n e).1)) (124, z_r0, (thO σ j k op n e).2, τ) := by
  obtain ⟨hj, hk0, hk, hn, h40, hop, ho, he, he6, htk, hgv, hl, hs, hx⟩ := h
  have one : 1 ≤ tk op → ∃ e', e = e' + 1 ∧ ∃ b, b < 40 ∧ σ 121 e' = nI b := by
    intro h1
    obtain ⟨e', rfl⟩ : ∃ e', e = e' + 1 := ⟨e - 1, by omega⟩
    obtain ⟨b, hb, hb2⟩ := hs e' (by omega)
    exact ⟨e', rfl, b, hb, hb2⟩
  have two : 2 ≤ tk op → ∃ e', e = e' + 2 ∧ (∃ b, b < 40 ∧ σ 121 (e' + 1) = nI b) ∧ ∃ a, a < 40 ∧ σ 121 e' = nI a := by
    intro h2
    obtain ⟨e', rfl⟩ : ∃ e', e = e' + 2 := ⟨e - 2, by omega⟩
    obtain ⟨b, hb, hb2⟩ := hs (e' + 1) (by omega)
    obtain ⟨a, ha, ha2⟩ := hs e' (by omega)
    exact ⟨e', rfl, ⟨b, hb, hb2⟩, a, ha, ha2⟩
  have bin : ∀ (e' a b : Nat), e = e' + 2 → 3 ≤ op → op ≤ 8 → b < 40 → σ 121 (e' + 1) = nI b → a < 40 → σ 121 e' = nI a →
      thO σ j k op n e = (if (cal (hg σ e') n op a b).2 92 35 = nI (n + 1) ∧ (cal (hg σ e') n op a b).2 113 n = nI 2 then -3 - nI n else 0, hg (z_up (cal (hg σ e') n op a b).2 121 e' (nI (cal (hg σ e') n op a b).1)) (e' + 1)) := by
    intro e' a b h1 h3 h8 hb hb2 ha ha2
    subst h1
    rw [thO_op h3 h8]
    rw [show e' + 2 - 2 = e' from rfl, show e' + 2 - 1 = e' + 1 from rfl, ha2, hb2, tN_nI (show a < 2 ^ 31 by omega), tN_nI (show b < 2 ^ 31 by omega)]
  have h35 : ∀ e', hg σ e' 92 35 = nI n := fun e' => by rw [hg_35]; exact hn
  have nn : ¬ nI n = nI (n + 1) := fun q => by have := nI_inj q (by omega) (by omega); omega
  rcases op16 (Nat.lt_succ_of_lt ho) with rfl | rfl | rfl | rfl | rfl | rfl | rfl | rfl | rfl | rfl | rfl | rfl | rfl | rfl | rfl | rfl
  · exact sp_th0 hj hk0 hk hn h40 hop he (by have : e - 0 + 1 ≤ 6 := hgv; omega)
  · obtain ⟨hl6, hxl⟩ := hx (Or.inl rfl)
    exact sp_th1 hj hk0 hk hn h40 hop he (by have : e - 0 + 1 ≤ 6 := hgv; omega) hxl hl6
  · obtain ⟨hl6, hxl⟩ := hx (Or.inr rfl)
    obtain ⟨e', rfl, b, hb, hb2⟩ := one (by decide)
    have q := sp_th2 (d := d) (τ := τ) hj hk0 hk hn h40 hop he (by omega) hb2 hb hxl hl6
    rw [← hb2] at q
    exact q
  · obtain ⟨e', rfl, ⟨b, hb, hb2⟩, a, ha, ha2⟩ := two (by decide)
    rw [bin e' a b rfl (by decide) (by decide) hb hb2 ha ha2]
    rcases cal_35 (op := 3) (a := a) (b := b) (h35 e') with q | q
    · rw [if_neg (fun w => nn (q.symm.trans w.1))]
      exact sp_th3s hj hk0 hk hn h40 hop he (by omega) hb2 hb ha2 ha q
    · by_cases w : (cal (hg σ e') n 3 a b).2 113 n = nI 2
      · rw [if_pos ⟨q, w⟩]
        exact sp_th3n hj hk0 hk hn h40 hop he (by omega) hb2 hb ha2 ha q w
      · rw [if_neg (fun z => w z.2)]
        exact sp_th3k hj hk0 hk hn h40 hop he (by omega) hb2 hb ha2 ha q w
  · obtain ⟨e', rfl, ⟨b, hb, hb2⟩, a, ha, ha2⟩ := two (by decide)
    rw [bin e' a b rfl (by decide) (by decide) hb hb2 ha ha2]
    rcases cal_35 (op := 4) (a := a) (b := b) (h35 e') with q | q
    · rw [if_neg (fun w => nn (q.symm.trans w.1))]
      exact sp_th4s hj hk0 hk hn h40 hop he (by omega) hb2 hb ha2 ha q
    · by_cases w : (cal (hg σ e') n 4 a b).2 113 n = nI 2
      · rw [if_pos ⟨q, w⟩]
        exact sp_th4n hj hk0 hk hn h40 hop he (by omega) hb2 hb ha2 ha q w
      · rw [if_neg (fun z => w z.2)]
        exact sp_th4k hj hk0 hk hn h40 hop he (by omega) hb2 hb ha2 ha q w
  · obtain ⟨e', rfl, ⟨b, hb, hb2⟩, a, ha, ha2⟩ := two (by decide)
    rw [bin e' a b rfl (by decide) (by decide) hb hb2 ha ha2]
    rcases cal_35 (op := 5) (a := a) (b := b) (h35 e') with q | q
    · rw [if_neg (fun w => nn (q.symm.trans w.1))]
      exact sp_th5s hj hk0 hk hn h40 hop he (by omega) hb2 hb ha2 ha q
    · by_cases w : (cal (hg σ e') n 5 a b).2 113 n = nI 2
      · rw [if_pos ⟨q, w⟩]
        exact sp_th5n hj hk0 hk hn h40 hop he (by omega) hb2 hb ha2 ha q w
      · rw [if_neg (fun z => w z.2)]
        exact sp_th5k hj hk0 hk hn h40 hop he (by omega) hb2 hb ha2 ha q w
  · obtain ⟨e', rfl, ⟨b, hb, hb2⟩, a, ha, ha2⟩ := two (by decide)
    rw [bin e' a b rfl (by decide) (by decide) hb hb2 ha ha2]
    rcases cal_35 (op := 6) (a := a) (b := b) (h35 e') with q | q
    · rw [if_neg (fun w => nn (q.symm.trans w.1))]
      exact sp_th6s hj hk0 hk hn h40 hop he (by omega) hb2 hb ha2 ha q
    · by_cases w : (cal (hg σ e') n 6 a b).2 113 n = nI 2
      · rw [if_pos ⟨q, w⟩]
        exact sp_th6n hj hk0 hk hn h40 hop he (by omega) hb2 hb ha2 ha q w
      · rw [if_neg (fun z => w z.2)]
        exact sp_th6k hj hk0 hk hn h40 hop he (by omega) hb2 hb ha2 ha q w
  · obtain ⟨e', rfl, ⟨b, hb, hb2⟩, a, ha, ha2⟩ := two (by decide)
    rw [bin e' a b rfl (by decide) (by decide) hb hb2 ha ha2]
    rcases cal_35 (op := 7) (a := a) (b := b) (h35 e') with q | q
    · rw [if_neg (fun w => nn (q.symm.trans w.1))]
      exact sp_th7s hj hk0 hk hn h40 hop he (by omega) hb2 hb ha2 ha q
    · by_cases w : (cal (hg σ e') n 7 a b).2 113 n = nI 2
      · rw [if_pos ⟨q, w⟩]
        exact sp_th7n hj hk0 hk hn h40 hop he (by omega) hb2 hb ha2 ha q w
      · rw [if_neg (fun z => w z.2)]
        exact sp_th7k hj hk0 hk hn h40 hop he (by omega) hb2 hb ha2 ha q w
  · obtain ⟨e', rfl, ⟨b, hb, hb2⟩, a, ha, ha2⟩ := two (by decide)
    rw [bin e' a b rfl (by decide) (by decide) hb hb2 ha ha2]
    rcases cal_35 (op := 8) (a := a) (b := b) (h35 e') with q | q
    · rw [if_neg (fun w => nn (q.symm.trans w.1))]
      exact sp_th8s hj hk0 hk hn h40 hop he (by omega) hb2 hb ha2 ha q
    · by_cases w : (cal (hg σ e') n 8 a b).2 113 n = nI 2
      · rw [if_pos ⟨q, w⟩]
        exact sp_th8n hj hk0 hk hn h40 hop he (by omega) hb2 hb ha2 ha q w
      · rw [if_neg (fun z => w z.2)]
        exact sp_th8k hj hk0 hk hn h40 hop he (by omega) hb2 hb ha2 ha q w
  · obtain ⟨e', rfl, b, hb, hb2⟩ := one (by decide)
    have q := sp_th9 (d := d) (τ := τ) hj hk0 hk hn h40 hop he (by have : e' + 1 - 1 + 2 ≤ 6 := hgv; omega) hb2 hb
    rw [← hb2] at q
    exact q
  · obtain ⟨e', rfl, b, hb, hb2⟩ := one (by decide)
    exact sp_th10 hj hk0 hk hn h40 hop he (by omega) hb2 hb
  · obtain ⟨e', rfl, ⟨b, hb, hb2⟩, a, ha, ha2⟩ := two (by decide)
    have q := sp_th11 (d := d) (τ := τ) hj hk0 hk hn h40 hop he (by omega) hb2 hb ha2 ha
    rw [← hb2, ← ha2] at q
    exact q
  · obtain ⟨e', rfl, b, hb, hb2⟩ := one (by decide)
    have q := sp_th12 (d := d) (τ := τ) hj hk0 hk hn h40 hop he (by omega) hb2 hb
    have e1 : thO σ j k 12 n (e' + 1) = (nI 2, z_up (hg (hg σ e') (e' + 0)) 117 b 1) := by
      show (nI 2, z_up (hg (hg σ e') e') 117 (tN (σ 121 e')) 1) = _
      rw [hb2, tN_nI (show b < 2 ^ 31 by omega)]
      rfl
    rw [e1]
    exact q
  · exact sp_th13 hj hk0 hk hn h40 hop he (by omega)
  · obtain ⟨e', rfl, b, hb, hb2⟩ := one (by decide)
    have e1 : thO σ j k 14 n (e' + 1) = if σ 113 b ≤ 0 ∨ ¬ σ 119 b &&& thW σ j = 0 then (0, hg (hg σ e') (e' + 0)) else (1, picS (z_up (z_up (hg (hg σ e') (e' + 0)) 119 b (σ 119 b ||| thW σ j)) 117 b 1) e') := by
      rw [thO_14, show e' + 1 - 1 = e' from rfl, hb2, tN_nI (show b < 2 ^ 31 by omega)]
      rfl
    rw [e1]
    by_cases w : σ 113 b ≤ 0 ∨ ¬ σ 119 b &&& thW σ j = 0
    · rw [if_pos w]
      exact sp_th14n hj hk0 hk hn h40 hop he (by omega) hb2 hb w
    · rw [if_neg w]
      exact sp_th14y hj hk0 hk hn h40 hop he (by omega) hb2 hb (fun z => w (Or.inl z)) (Classical.byContradiction fun z => w (Or.inr z)) hl (fun s hs' => hs s (by omega))
  · omega
