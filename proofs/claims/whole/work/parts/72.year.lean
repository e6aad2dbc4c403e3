/-! PURE: year, the first way over the text, on both sides -/
def gdS (T : Nat → Int32) (N : Nat) : Nat → Nat → Prop
  | 0, p => p = N
  | m + 1, p => p < N ∧ (rsS T N p).2 = true ∧ gdS T N m (rsS T N p).1
theorem rs_up {T : Nat → Int32} {N p : Nat} (h : (rsS T N p).2 = true) : p < N ∧ ∃ D : Nat, diS (T p) = D ∧ D ≠ 0 ∧ D ≤ 8 ∧ dgS T N D (p + 1) = D ∧ p + 1 + D < N ∧ T (p + 1 + D) = (59 : Int32) ∧ (rsS T N p).1 = p + D + 2 := by
  rcases rs_cases (T := T) (N := N) (p := p) with ⟨e, -⟩ | ⟨D, hpN, h1, h2, h3, ⟨-, e⟩ | ⟨g, g2, e⟩ | ⟨-, -, e⟩⟩
  · rw [e] at h; exact absurd h Bool.false_ne_true
  · rw [e] at h; exact absurd h Bool.false_ne_true
  · exact ⟨hpN, D, h1, h2, h3, g, g2.1, g2.2, by rw [e]⟩
  · rw [e] at h; exact absurd h Bool.false_ne_true
theorem bad_ne : ∀ q : Nat, q < 101 → ¬ ((-1000 : Int32) - nI q = 0) ∧ ¬ ((-2000 : Int32) - nI q = 0) := by decide +kernel
theorem st_41 {τ : St} {d N p f n : Nat} {T : Nat → Int32} {x1 : Int32} (h : Tr τ d T N) (e : τ 61 9 = nI p) (hp : p ≤ N) : ∃ ρ, Rd τ ρ ∧ ρ 61 9 = nI (rsS T N p).1 ∧ ((rsS T N p).2 = false → f_X9_year_41 x1 (f + 1) (nI n) 0 τ = f_X9_year_77 x1 (nI (n + 1)) ((-1000 : Int32) - nI (rsS T N p).1) ρ) ∧ ((rsS T N p).2 = true → f_X9_year_41 x1 (f + 1) (nI n) 0 τ = if (rsS T N p).1 < N then f_X9_year_41 x1 f (nI (n + 1)) 0 ρ else f_X9_year_77 x1 (nI (n + 1)) 0 ρ) := by
  have hN := h.2.1
  have hq := rs_N (T := T) hp
  obtain ⟨ρ, r1, r2, r3, -⟩ := st_r h e hp
  refine ⟨ρ, r2, r3, fun hb => ?_, fun hb => ?_⟩
  · rw [hb] at r1
    rw [f_X9_year_41_s, r1, ob_s, if_neg (show ¬ (false, ρ).1 = true from Bool.false_ne_true), f_X9_year_58_e]
    show (if (-1000 : Int32) - ρ 61 9 = 0 then _ else f_X9_year_77 x1 (nI n + 1) ((-1000 : Int32) - ρ 61 9) ρ) = _
    rw [r3, if_neg (bad_ne _ (by omega)).1, nI_1]
  · rw [hb] at r1
    rw [f_X9_year_41_s, r1, ob_s, if_pos (show (true, ρ).1 = true from rfl), f_X9_year_58_e, if_pos rfl]
    show (if ρ 61 9 < ρ 61 11 then _ else _) = _
    rw [r3, (h.rd r2).2.2.2.1, nI_1]
    by_cases c : (rsS T N p).1 < N
    · rw [if_pos (nI_lt c (by omega)), if_pos c]
    · rw [if_neg (nI_nlt (by omega) (by omega)), if_neg c]
theorem first_two {σ : St} {i d N : Nat} {T : Nat → Int32} {x1 : Int32} (hc : Tc σ i T N) : ∀ (e p f1 : Nat), N ≤ p + e → p < N → N + 21 ≤ f1 + p → (∃ q : Nat, q ≤ N ∧ f_X6_firstBadByte_6 i σ f1 0 (nI 0) (nI p) = some (nI q) ∧ ∀ (f2 n : Nat) (τ : St), e < f2 → Tr τ d T N → τ 61 9 = nI p → ∃ n' ρ, f_X9_year_41 x1 f2 (nI n) 0 τ = f_X9_year_77 x1 n' ((-1000 : Int32) - nI q) ρ ∧ Rd τ ρ) ∨ (∃ m : Nat, m ≤ e ∧ gdS T N m p ∧ f_X6_firstBadByte_6 i σ f1 0 (nI 0) (nI p) = some (-1) ∧ ∀ (f2 n : Nat) (τ : St), e < f2 → Tr τ d T N → τ 61 9 = nI p → ∃ ρ, f_X9_year_41 x1 f2 (nI n) 0 τ = f_X9_year_77 x1 (nI (n + m)) 0 ρ ∧ Rd τ ρ) := by
  have hN := hc.1
  intro e
  induction e with
  | zero => intro p f1 h1 h2; omega
  | succ e ih =>
    intro p f1 h1 h2 h3
    have hq := rs_N (T := T) (p := p) (N := N) (by omega)
    obtain ⟨f', b1, b2, b3⟩ := bad_st (v2 := nI 0) hc h2 (show 20 < f1 by omega)
    by_cases hb : (rsS T N p).2 = true
    · obtain ⟨-, D, -, -, -, -, -, -, hpl⟩ := rs_up hb
      rw [if_pos hb] at b3
      by_cases hl : (rsS T N p).1 < N
      · rcases ih (rsS T N p).1 f' (by omega) hl (by omega) with ⟨q, q1, q2, q3⟩ | ⟨m, q0, q1, q2, q3⟩
        · refine Or.inl ⟨q, q1, by rw [b3, q2], fun f2 n τ hf2 ht he => ?_⟩
          obtain ⟨f2, rfl⟩ : ∃ g, f2 = g + 1 := ⟨f2 - 1, by omega⟩
          obtain ⟨ρ, r1, r2, -, r4⟩ := st_41 (x1 := x1) (f := f2) (n := n) ht he (by omega)
          obtain ⟨n', π, s1, s2⟩ := q3 f2 (n + 1) ρ (by omega) (ht.rd r1) r2
          exact ⟨n', π, by rw [r4 hb, if_pos hl, s1], r1.tr s2⟩
        · refine Or.inr ⟨m + 1, by omega, ⟨h2, hb, q1⟩, by rw [b3, q2], fun f2 n τ hf2 ht he => ?_⟩
          obtain ⟨f2, rfl⟩ : ∃ g, f2 = g + 1 := ⟨f2 - 1, by omega⟩
          obtain ⟨ρ, r1, r2, -, r4⟩ := st_41 (x1 := x1) (f := f2) (n := n) ht he (by omega)
          obtain ⟨π, s1, s2⟩ := q3 f2 (n + 1) ρ (by omega) (ht.rd r1) r2
          exact ⟨π, by rw [r4 hb, if_pos hl, s1, show n + 1 + m = n + (m + 1) by omega], r1.tr s2⟩
      · have hpN : (rsS T N p).1 = N := by omega
        refine Or.inr ⟨1, by omega, ⟨h2, hb, hpN⟩, ?_, fun f2 n τ hf2 ht he => ?_⟩
        · obtain ⟨f', rfl⟩ : ∃ g, f' = g + 1 := ⟨f' - 1, by omega⟩
          rw [b3, hpN, f_X6_firstBadByte_6_s, hc.2.1, if_pos (nI_le (Nat.le_refl N) (by omega)), if_pos rfl, if_neg (nI_ne0 (by omega) (by omega))]
        · obtain ⟨f2, rfl⟩ : ∃ g, f2 = g + 1 := ⟨f2 - 1, by omega⟩
          obtain ⟨ρ, r1, r2, -, r4⟩ := st_41 (x1 := x1) (f := f2) (n := n) ht he (by omega)
          exact ⟨ρ, by rw [r4 hb, if_neg hl], r1⟩
    · rw [if_neg hb] at b3
      refine Or.inl ⟨(rsS T N p).1, hq, b3, fun f2 n τ hf2 ht he => ?_⟩
      obtain ⟨f2, rfl⟩ : ∃ g, f2 = g + 1 := ⟨f2 - 1, by omega⟩
      obtain ⟨ρ, r1, r2, r3, -⟩ := st_41 (x1 := x1) (f := f2) (n := n) ht he (by omega)
      exact ⟨_, ρ, r3 (by simpa using hb), r1⟩
/-- the whole text -/
theorem text_two {σ : St} {i d N : Nat} {T : Nat → Int32} {x1 : Int32} (hc : Tc σ i T N) : (∃ q : Nat, q ≤ N ∧ f_X6_firstBadByte i σ = some (nI q) ∧ ∀ τ : St, Tr τ d T N → τ 61 9 = nI 0 → ∃ n' ρ, f_X9_year_41 x1 fu 0 0 τ = f_X9_year_77 x1 n' ((-1000 : Int32) - nI q) ρ ∧ Rd τ ρ) ∨ (∃ m : Nat, m ≤ N ∧ gdS T N m 0 ∧ f_X6_firstBadByte i σ = some (-1) ∧ ∀ τ : St, Tr τ d T N → τ 61 9 = nI 0 → ∃ ρ, f_X9_year_41 x1 fu 0 0 τ = f_X9_year_77 x1 (nI m) 0 ρ ∧ Rd τ ρ) := by
  have hN := hc.1
  by_cases h0 : N = 0
  · subst h0
    refine Or.inl ⟨0, Nat.le_refl 0, ?_, fun τ ht he => ?_⟩
    · unfold f_X6_firstBadByte
      rw [show fu = 3999 + 1 from rfl, f_X6_firstBadByte_6_s, hc.2.1, if_pos (show nI 0 ≤ 0 by decide), if_pos rfl, if_pos (show nI 0 = 0 from rfl), f_X6_firstBadByte_96_e, hc.2.1]
    · obtain ⟨ρ, r1, r2, r3, -⟩ := st_41 (x1 := x1) (f := 3999) (n := 0) ht he (Nat.le_refl 0)
      have e0 : rsS T 0 0 = (0, false) := rs_0 (fun q => absurd q.1 (Nat.lt_irrefl 0))
      rw [e0] at r3
      exact ⟨_, ρ, r3 rfl, r1⟩
  · rcases first_two (d := d) (x1 := x1) hc N 0 fu (by omega) (by omega) (show N + 21 ≤ 4000 + 0 by omega) with ⟨q, q1, q2, q3⟩ | ⟨m, q0, q1, q2, q3⟩
    · exact Or.inl ⟨q, q1, q2, fun τ ht he => q3 fu 0 τ (fu_gt (by omega)) ht he⟩
    · refine Or.inr ⟨m, q0, q1, q2, fun τ ht he => ?_⟩
      obtain ⟨ρ, r1, r2⟩ := q3 fu 0 τ (fu_gt (by omega)) ht he
      rw [Nat.zero_add] at r1
      exact ⟨ρ, r1, r2⟩
/-- how many statements -/
theorem cnt_skip {σ : St} {i N c : Nat} {T : Nat → Int32} (h : Tc σ i T N) : ∀ (k p f : Nat), (∀ j : Nat, j < k → p + j < N ∧ ¬ T (p + j) = (59 : Int32)) → f_X6_statements_4 i σ (f + k) (nI c) (nI p) = f_X6_statements_4 i σ f (nI c) (nI (p + k))
  | 0, p, f, _ => rfl
  | k + 1, p, f, hk => by
    have hN := h.1
    have h12 : p < N ∧ ¬ T p = (59 : Int32) := hk 0 (by omega)
    obtain ⟨h1, h2⟩ := h12
    have ih := cnt_skip (c := c) h k (p + 1) f (fun j hj => by
      have := hk (j + 1) (by omega)
      rw [show p + (j + 1) = p + 1 + j by omega] at this
      exact this)
    rw [show f + (k + 1) = (f + k) + 1 from rfl, f_X6_statements_4_s, h.2.1, if_neg (nI_ge (a := p) h1 (by omega)), tc_cell h h1, ob_s, if_neg h2, f_X6_statements_28_e, nI_1, add0, ih, show p + 1 + k = p + (k + 1) by omega]
theorem di_59 {c : Int32} (h : diS c ≠ 0) : ¬ c = (59 : Int32) := fun q => h (by rw [q]; rfl)
theorem dig_59 {c : Int32} (h : isD c = true) : ¬ c = (59 : Int32) := fun q => by rw [q] at h; exact absurd h (by decide)
theorem cnt_text {σ : St} {i N : Nat} {T : Nat → Int32} (h : Tc σ i T N) : ∀ (m p c f : Nat), gdS T N m p → N + 1 ≤ f + p → f_X6_statements_4 i σ f (nI c) (nI p) = some (nI (c + m))
  | 0, p, c, f, hg, hf => by
    have hN := h.1
    have hp : p = N := hg
    subst hp
    obtain ⟨f, rfl⟩ : ∃ g, f = g + 1 := ⟨f - 1, by omega⟩
    rw [f_X6_statements_4_s, h.2.1, if_pos (nI_le (Nat.le_refl p) (by omega))]
    rfl
  | m + 1, p, c, f, hg, hf => by
    have hN := h.1
    obtain ⟨hp, hb, hg⟩ := hg
    obtain ⟨-, D, h1, h2, h3, h4, h5, h6, h7⟩ := rs_up hb
    rw [h7] at hg
    obtain ⟨f, rfl⟩ : ∃ g, f = (g + 1) + (D + 1) := ⟨f - (D + 2), by omega⟩
    rw [cnt_skip h (D + 1) p (f + 1) (fun j hj => by
      by_cases h0 : j = 0
      · rw [h0]; exact ⟨hp, di_59 (by rw [Nat.add_zero, h1]; exact h2)⟩
      · have := dg_all _ _ h4 (j - 1) (by omega)
        rw [show p + 1 + (j - 1) = p + j by omega] at this
        exact ⟨this.1, dig_59 this.2⟩)]
    rw [show p + (D + 1) = p + 1 + D by omega, f_X6_statements_4_s, h.2.1, if_neg (nI_ge (a := p + 1 + D) h5 (by omega)), tc_cell h h5, ob_s, if_pos h6, f_X6_statements_28_e, nI_1, nI_1, show p + 1 + D + 1 = p + D + 2 by omega, cnt_text h m (p + D + 2) (c + 1) f hg (by omega), show c + 1 + m = c + (m + 1) by omega]
