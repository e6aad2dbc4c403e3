/-! PURE: shelves that are read: cost, forged, law, judge -/
theorem e32 (d : Nat) : 2 + 2 * d + 1 = 3 + 2 * d := by omega
theorem atd {σ : St} {d : Nat} (i : Nat) (hd : d < 8) : σ i (nI d).toNatClampNeg = σ i d := by rw [nI_clamp (by omega)]
theorem isRow_eq {d : Nat} {σ : St} : f_X8_rowRefusal (some (2 + 2 * d)) σ = f_X8_refusal (some (2 + 2 * d)) 1 σ := rfl
theorem shelf_y {d : Nat} (hd : d < 8) : f_X9_isShelf (nI d) = true := shelf_iff.mpr ⟨d, hd, rfl⟩
/-- a row's refusal on both sides -/
theorem row_no {x w : Int32} {σ : St} (hx : ¬ isN x 8) : f_X8_shelfAt x σ = some none ∧ f_X8_rowRefusal none σ = -1 ∧ f_X9_wrongRow x w σ = some (-1) ∧ f_X9_wrongKept x σ = some (-1) ∧ f_X8_kindRefusal none σ = -1 := by
  refine ⟨shelfAt_n hx, rfl, ?_, ?_, rfl⟩
  · unfold f_X9_wrongRow
    rw [no_if shelf_iff hx]
  · unfold f_X9_wrongKept
    rw [no_if shelf_iff hx]
theorem m1neg : (-1 : Int32) < 0 := by decide
theorem row_two {d : Nat} {σ : St} (hd : d < 8) (h : SR σ d) : (f_X8_rowRefusal (some (2 + 2 * d)) σ = -11 ∧ ∀ w, f_X9_wrongRow (nI d) w σ = some (-11)) ∨ (f_X8_rowRefusal (some (2 + 2 * d)) σ = -12 ∧ ∀ w, f_X9_wrongRow (nI d) w σ = some (-12)) ∨ ∃ s n : Nat, SR2 σ d s n ∧ f_X8_rowRefusal (some (2 + 2 * d)) σ = 0 ∧ f_X9_wrongRow (nI d) (-1) σ = some 0 ∧ ∀ w : Int32, ¬ w < 0 → f_X9_wrongRow (nI d) w σ = some (if nI s = w then 0 else -12) := by
  have hb : inb (nI d) 8 := inb_nI hd (by decide)
  rcases h with h | h | ⟨s, n, h⟩
  · refine Or.inl ⟨isRow_eq.trans (ref_0 h), fun w => ?_⟩
    obtain ⟨-, -, h3⟩ := h
    unfold f_X9_wrongRow
    rw [if_pos (shelf_y hd), if_pos hb, atd (σ := σ) 69 hd, h3, if_pos rfl]
  · refine Or.inr (Or.inl ⟨by rw [isRow_eq, ref_1 h, if_neg (by decide)], fun w => ?_⟩)
    obtain ⟨a, b, -, -, -, -, -, h3, -⟩ := h
    unfold f_X9_wrongRow f_X9_wrongRow_49
    rw [if_pos (shelf_y hd), if_pos hb, atd (σ := σ) 69 hd, h3, if_neg (by decide), if_pos hb, if_neg (by decide)]
  · refine Or.inr (Or.inr ⟨s, n, h, by rw [isRow_eq, ref_2 h, if_pos rfl], ?_, fun w hw => ?_⟩)
    · obtain ⟨-, -, -, -, -, h3, -⟩ := h
      unfold f_X9_wrongRow
      rw [if_pos (shelf_y hd), if_pos hb, atd (σ := σ) 69 hd, h3, if_neg (by decide), if_pos hb, if_pos rfl, if_pos m1neg]
    · obtain ⟨-, -, -, -, -, h3, h4, -⟩ := h
      unfold f_X9_wrongRow f_X9_wrongRow_49
      rw [if_pos (shelf_y hd), if_pos hb, atd (σ := σ) 69 hd, h3, if_neg (by decide), if_pos hb, if_pos rfl, if_neg hw, if_pos hb, atd (σ := σ) 72 hd, h4]
      by_cases hz : nI s = w
      · rw [if_pos hz, if_pos hz]
      · rw [if_neg hz, if_neg hz]
theorem kind_two {d : Nat} {σ : St} (hd : d < 8) (h : SR σ d) : (∃ c : Int32, ¬ c = 0 ∧ f_X8_kindRefusal (some (2 + 2 * d)) σ = c ∧ f_X9_wrongKept (nI d) σ = some c) ∨ (SR1 σ d ∧ f_X8_kindRefusal (some (2 + 2 * d)) σ = 0 ∧ f_X9_wrongKept (nI d) σ = some 0) := by
  have hb : inb (nI d) 8 := inb_nI hd (by decide)
  rcases h with h | h | ⟨s, n, h⟩
  · refine Or.inl ⟨-11, by decide, ref_0 h, ?_⟩
    obtain ⟨-, -, h3⟩ := h
    unfold f_X9_wrongKept
    rw [if_pos (shelf_y hd), if_pos hb, atd (σ := σ) 69 hd, h3, if_pos rfl]
  · refine Or.inr ⟨h, (ref_1 h).trans (if_pos rfl), ?_⟩
    obtain ⟨a, b, -, -, -, -, -, h3, -⟩ := h
    unfold f_X9_wrongKept
    rw [if_pos (shelf_y hd), if_pos hb, atd (σ := σ) 69 hd, h3, if_neg (by decide), if_pos hb, if_neg (by decide)]
  · refine Or.inl ⟨-12, by decide, (ref_2 h).trans (if_neg (by decide)), ?_⟩
    obtain ⟨-, -, -, -, -, h3, -⟩ := h
    unfold f_X9_wrongKept
    rw [if_pos (shelf_y hd), if_pos hb, atd (σ := σ) 69 hd, h3, if_neg (by decide), if_pos hb, if_pos rfl]
theorem p_cost {σ : St} (h : Inv σ) (x : Int32) : ∃ r, f_X8_cost x σ = some r ∧ f_X9_cost x σ = some r := by
  unfold f_X8_cost f_X9_cost
  by_cases hx : isN x 8
  · obtain ⟨d, hd, rfl⟩ := hx
    rw [shelfAt_y hd]
    show ∃ r, (if f_X8_kindRefusal (some (2 + 2 * d)) σ = 0 then _ else _) = some r ∧ _
    rcases kind_two hd (h.2.2 d hd) with ⟨c, hc, e1, e2⟩ | ⟨⟨a, b, ha, hb, h1, h2, h3, h4, h5, h6⟩, e1, e2⟩
    · rw [e1, e2, if_neg hc, f_X8_cost_19_e, ob_s, if_neg hc]
      exact ⟨_, rfl, rfl⟩
    · have hb8 : inb (nI d) 8 := inb_nI hd (by decide)
      rw [e1, e2, if_pos rfl, ob_s, if_pos rfl, if_pos hb8, if_pos hb8, atd (σ := σ) 70 hd, atd (σ := σ) 71 hd, h2, h3, h5, h6, cost_eq a ha b hb]
      exact ⟨_, rfl, rfl⟩
  · obtain ⟨e1, e2, -, e3, e4⟩ := row_no (w := 0) (σ := σ) hx
    rw [e1, e3]
    exact ⟨-1, rfl, rfl⟩
theorem off_eq (d j : Nat) : ((100 : Int32) * nI d) + nI j = nI (100 * d + j) := by
  show (nI 100 * nI d) + nI j = _
  rw [pk_mul, nI_add]
theorem off_in {d j : Nat} (hd : d < 8) (hj : j < 100) : inb (((100 : Int32) * nI d) + nI j) 800 := by
  rw [off_eq]; exact inb_nI (by omega) (by decide)
theorem off_cl {d j : Nat} (hd : d < 8) (hj : j < 100) : (((100 : Int32) * nI d) + nI j).toNatClampNeg = 100 * d + j := by
  rw [off_eq, nI_clamp (by omega)]
theorem cell_eq {σ : St} {d s n j : Nat} (h : SR2 σ d s n) (hj : j < n) : f_X5_cell (2 + 2 * d) (nI j) σ = some (σ (3 + 2 * d) j) := by
  obtain ⟨h1, h2, h3, h4, h5, -⟩ := h
  unfold f_X5_cell
  rw [if_neg (nI_n0 (by omega)), h5, if_neg (nI_ge hj (by omega)), if_neg (ge100 (by omega)), if_pos (inb_nI (by omega) (by decide)), nI_clamp (n := j) (by omega), e32]
theorem SR2.el {σ : St} {d s n j : Nat} (h : SR2 σ d s n) (hj : j < n) : σ 74 (100 * d + j) = σ (3 + 2 * d) j := h.2.2.2.2.2.2.2.2.1 j hj
theorem SR2.sz {σ : St} {d s n : Nat} (h : SR2 σ d s n) : σ (2 + 2 * d) 1 = nI n ∧ σ 73 d = nI n ∧ σ (2 + 2 * d) 2 = nI s ∧ σ 72 d = nI s := ⟨h.2.2.2.2.1, h.2.2.2.2.2.2.2.1, h.2.2.1, h.2.2.2.2.2.2.1⟩
theorem skip_eq {σ : St} {d s n j : Nat} (h : SR2 σ d s n) (hj : j < n) : f_X5_isSkipped (2 + 2 * d) (nI j) σ = some (decide (σ (3 + 2 * d) j = f_X9_leastOf (nI s))) := by
  have hc := cell_eq h hj
  have hs : s = 0 ∨ s = 1 ∨ s = 2 := by have := h.1; omega
  unfold f_X5_isSkipped f_X9_leastOf
  rw [hc, ob_s, ob_s, h.sz.2.2.1]
  have fin : ∀ a b : Int32, f_X5_isSkipped_44 (2 + 2 * d) (nI j) σ a b = some (decide (a = b)) := fun a b => by
    unfold f_X5_isSkipped_44
    by_cases q : a = b
    · rw [if_pos q, decide_eq_true q]
    · rw [if_neg q, decide_eq_false q]
  rcases hs with rfl | rfl | rfl
  · rw [if_pos (show nI 0 = 0 from rfl), if_pos (show nI 0 = 0 from rfl)]
    by_cases q : σ (3 + 2 * d) j = -128
    · rw [if_pos q, decide_eq_true q]
    · rw [if_neg q, decide_eq_false q]
  · rw [if_neg (show ¬ nI 1 = 0 by decide), if_pos (show nI 1 = 1 from rfl), fin, if_neg (show ¬ nI 1 = 0 by decide), if_pos (show nI 1 = 1 from rfl)]
  · rw [if_neg (show ¬ nI 2 = 0 by decide), if_neg (show ¬ nI 2 = 1 by decide), fin, if_neg (show ¬ nI 2 = 0 by decide), if_neg (show ¬ nI 2 = 1 by decide)]
/-- forged -/
theorem SR2.congr {σ τ : St} {d s n : Nat} (h1 : τ (2 + 2 * d) = σ (2 + 2 * d)) (h2 : τ (3 + 2 * d) = σ (3 + 2 * d)) (h3 : ∀ i : Nat, 69 ≤ i → i ≤ 74 → τ i = σ i) (h : SR2 σ d s n) : SR2 τ d s n := by
  unfold SR2 at h ⊢
  rw [h1, h2, h3 69 (by decide) (by decide), h3 72 (by decide) (by decide), h3 73 (by decide) (by decide), h3 74 (by decide) (by decide)]
  exact h
theorem forged_two {σ ρ1 ρ2 : St} {n m d s N : Nat} {o pg : Nat → Int32} {pc : Int32} (h : PR σ n m o pg pc ρ1 ρ2) (hn : n ≤ 10) (hd : d < 8) (q1 : SR2 ρ1 d s N) (q2 : SR2 ρ2 d s N) (q3 : ρ2 (3 + 2 * d) = ρ1 (3 + 2 * d)) : ∀ (e f1 f2 j : Nat), j + e = N → e < f1 → e < f2 → ∃ r, f_X0_firstForged_2 (2 + 2 * d) ρ1 f1 (nI j) = some r ∧ f_X9_forged_19 (nI d) f2 (nI j) ρ2 = some (r, ρ2) := by
  have hm := h.1
  have hN := q1.2.1
  have h7 : ρ1 18 3 = nI m := h.2.2.2.2.2.2.1
  have h10 : ρ2 61 7 = nI m := h.2.2.2.2.2.2.2.2.2.1
  have hb8 : inb (nI d) 8 := inb_nI hd (by decide)
  intro e
  induction e with
  | zero =>
    intro f1 f2 j hj g1 g2
    obtain ⟨f1, rfl⟩ : ∃ g, f1 = g + 1 := ⟨f1 - 1, by omega⟩
    obtain ⟨f2, rfl⟩ : ∃ g, f2 = g + 1 := ⟨f2 - 1, by omega⟩
    obtain rfl : j = N := by omega
    rw [f_X0_firstForged_2_s, f_X9_forged_19_s, q1.sz.1, if_pos (nI_le (Nat.le_refl j) (by omega)), if_pos hb8, atd (σ := ρ2) 73 hd, q2.sz.2.1, if_pos (nI_le (Nat.le_refl j) (by omega))]
    exact ⟨_, rfl, rfl⟩
  | succ e ih =>
    intro f1 f2 j hj g1 g2
    obtain ⟨f1, rfl⟩ : ∃ g, f1 = g + 1 := ⟨f1 - 1, by omega⟩
    obtain ⟨f2, rfl⟩ : ∃ g, f2 = g + 1 := ⟨f2 - 1, by omega⟩
    rw [f_X0_firstForged_2_s, f_X9_forged_19_s, q1.sz.1, if_neg (nI_ge (a := j) (b := N) (by omega) (by omega)), if_pos hb8, atd (σ := ρ2) 73 hd, q2.sz.2.1, if_neg (nI_ge (a := j) (b := N) (by omega) (by omega)), h7, h10]
    by_cases hc : m ≤ j
    · rw [if_pos (nI_le hc (by omega)), if_pos (nI_le hc (by omega))]
      exact ⟨_, rfl, rfl⟩
    · obtain ⟨q, hq, eq, ed, a1, a2, b1, b2, c1, c2, ht⟩ := h.at hn (j := j) (by omega)
      have a1' : ρ1 19 (nI j).toNatClampNeg = nI q := by rw [nI_clamp (n := j) (by omega), a1]
      have b1' : ρ2 66 (nI j).toNatClampNeg = nI q := by rw [nI_clamp (n := j) (by omega), b1]
      have jn : inb (nI j) 10 := inb_nI (by omega) (by decide)
      rw [if_neg (nI_ge (a := j) (b := m) (by omega) (by omega)), if_neg (nI_ge (a := j) (b := m) (by omega) (by omega)), cell_eq q1 (by omega), ob_s, ed, ob_s, if_pos (off_in hd (by omega)), if_pos jn, b1', off_cl hd (by omega), q2.el (by omega), q3]
      by_cases hz : ρ1 (3 + 2 * d) j = nI q
      · rw [if_pos hz, if_pos hz, nI_1]
        exact ih f1 f2 (j + 1) (by omega) (by omega) (by omega)
      · rw [if_neg hz, if_neg hz]
        exact ⟨_, rfl, rfl⟩
theorem p_forged {σ : St} (h : Inv σ) (x : Int32) : ∃ r σ1 σ2, f_X8_forged x σ = some (r, σ1) ∧ f_X9_forged x σ1 = some (r, σ2) ∧ Inv σ2 := by
  obtain ⟨n, hy⟩ := h.1
  have hn := hy.1
  unfold f_X8_forged f_X9_forged
  by_cases hx : isN x 8
  · obtain ⟨d, hd, rfl⟩ := hx
    rw [shelfAt_y hd]
    show ∃ r σ1 σ2, (if f_X8_rowRefusal (some (2 + 2 * d)) σ = 0 then _ else _) = some (r, σ1) ∧ _
    rcases row_two hd (h.2.2 d hd) with ⟨e1, e2⟩ | ⟨e1, e2⟩ | ⟨s, N, q, e1, e2, -⟩
    · rw [e1, if_neg (by decide)]
      refine ⟨_, _, σ, rfl, ?_, h⟩
      rw [e2, ob_s, if_neg (by decide)]
    · rw [e1, if_neg (by decide)]
      refine ⟨_, _, σ, rfl, ?_, h⟩
      rw [e2, ob_s, if_neg (by decide)]
    · obtain ⟨m, o, pg, pc, ρ1, ρ2, p1, p2, hq⟩ := both hy
      have k1 := hq.2.2.2.2.1
      have k2 := hq.2.2.2.2.2.1.1
      have q1 : SR2 ρ1 d s N := q.congr (k1 _ (by omega) (by omega) (by omega)) (k1 _ (by omega) (by omega) (by omega)) (fun i a b => k1 i (by omega) (by omega) (by omega))
      have q2 : SR2 ρ2 d s N := q1.congr (k2 _ (by omega) (by omega) (by omega)) (k2 _ (by omega) (by omega) (by omega)) (fun i a b => k2 i (by omega) (by omega) (by omega))
      have hN := q1.2.1
      obtain ⟨r, r1, r2⟩ := forged_two hq hn hd q1 q2 (k2 _ (by omega) (by omega) (by omega)) N fu fu 0 (by omega) (fu_gt (by omega)) (fu_gt (by omega))
      have r1' : f_X0_firstForged (2 + 2 * d) ρ1 = some r := r1
      have hI := hq.inv h
      have e2' : f_X9_wrongRow (nI d) (-1) ρ1 = some 0 := by
        rcases row_two hd (hI.1.2.2 d hd) with ⟨-, e3⟩ | ⟨-, e3⟩ | ⟨-, -, -, -, e3, -⟩
        · exfalso
          rcases row_two hd (Or.inr (Or.inr ⟨s, N, q1⟩)) with ⟨a, -⟩ | ⟨a, -⟩ | ⟨-, -, -, -, a, -⟩
          · rw [isRow_eq, ref_2 q1] at a; exact absurd a (by decide)
          · rw [isRow_eq, ref_2 q1] at a; exact absurd a (by decide)
          · rw [e3] at a; exact absurd a (by decide)
        · exfalso
          rcases row_two hd (Or.inr (Or.inr ⟨s, N, q1⟩)) with ⟨a, -⟩ | ⟨a, -⟩ | ⟨-, -, -, -, a, -⟩
          · rw [isRow_eq, ref_2 q1] at a; exact absurd a (by decide)
          · rw [isRow_eq, ref_2 q1] at a; exact absurd a (by decide)
          · rw [e3] at a; exact absurd a (by decide)
        · exact e3
      rw [e1, if_pos rfl, p1, ob_s, r1', ob_s]
      refine ⟨r, ρ1, ρ2, rfl, ?_, hI.2⟩
      rw [e2', ob_s, if_pos rfl, p2, ob_s]
      exact r2
  · obtain ⟨e1, e2, e3, -⟩ := row_no (w := -1) (σ := σ) hx
    rw [e1]
    refine ⟨-1, σ, σ, rfl, ?_, h⟩
    rw [e3]
    rfl
