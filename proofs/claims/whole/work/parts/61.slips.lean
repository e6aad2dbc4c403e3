/-! PURE: slips, trueDay, the answers -/
theorem tm_dm {σ : St} {d : Nat} {x y : Int32} : ∀ i : Nat, tmS σ d x y i ≤ dmS σ d x i
  | 0 => Nat.le_refl 0
  | i + 1 => by
    have := tm_dm (σ := σ) (d := d) (x := x) (y := y) i
    by_cases h1 : σ (3 + 2 * d) (2 * i) = x
    · by_cases h2 : σ (3 + 2 * d) (2 * i + 1) = y
      · rw [show tmS σ d x y (i + 1) = tmS σ d x y i + 1 from if_pos ⟨h1, h2⟩, show dmS σ d x (i + 1) = dmS σ d x i + 1 from if_pos h1]; omega
      · rw [show tmS σ d x y (i + 1) = tmS σ d x y i from if_neg (fun z => h2 z.2), show dmS σ d x (i + 1) = dmS σ d x i + 1 from if_pos h1]; omega
    · rw [show tmS σ d x y (i + 1) = tmS σ d x y i from if_neg (fun z => h1 z.1), show dmS σ d x (i + 1) = dmS σ d x i from if_neg h1]; exact this
theorem tm_pos {σ : St} {d : Nat} {x y : Int32} : ∀ m i : Nat, i < m → σ (3 + 2 * d) (2 * i) = x → σ (3 + 2 * d) (2 * i + 1) = y → 0 < tmS σ d x y m
  | 0, i, h, _, _ => absurd h (Nat.not_lt_zero i)
  | m + 1, i, h, h1, h2 => by
    by_cases hi : i = m
    · subst hi
      rw [show tmS σ d x y (i + 1) = tmS σ d x y i + 1 from if_pos ⟨h1, h2⟩]; omega
    · have := tm_pos m i (by omega) h1 h2
      unfold tmS
      split <;> omega
theorem most_two {σ : St} {n d s m : Nat} (hd : d < 8) (q : SR2 σ d s (2 * m)) (hp : pairs σ d n m) (x : Int32) : ∀ (e f1 f2 i : Nat) (v c : Int32), i + e = m → e < f1 → e < f2 → (v = -4 ∧ c = 0 ∧ dmS σ d x i = 0 ∨ ∃ y : Nat, y < 365 ∧ v = nI y ∧ c = nI (tmS σ d x (nI y) m)) → ∃ r, f_X2_dayToldMost_8 (2 + 2 * d) x σ f1 v c (nI (2 * i)) = some r ∧ f_X9_mostTold_6 (nI d) x σ f2 v (nI (2 * i)) = some r ∧ (r = -4 ∧ dmS σ d x m = 0 ∨ ∃ y : Nat, y < 365 ∧ r = nI y) := by
  have hN := q.2.1
  have hb8 : inb (nI d) 8 := inb_nI hd (by decide)
  intro e
  induction e with
  | zero =>
    intro f1 f2 i v c hi g1 g2 h
    obtain ⟨f1, rfl⟩ : ∃ g, f1 = g + 1 := ⟨f1 - 1, by omega⟩
    obtain ⟨f2, rfl⟩ : ∃ g, f2 = g + 1 := ⟨f2 - 1, by omega⟩
    obtain rfl : i = m := by omega
    rw [f_X2_dayToldMost_8_s, f_X9_mostTold_6_s, q.sz.1, if_pos (nI_le (Nat.le_refl _) (by omega)), if_pos hb8, atd (σ := σ) 73 hd, q.sz.2.1, if_pos (nI_le (Nat.le_refl _) (by omega))]
    refine ⟨v, rfl, rfl, ?_⟩
    rcases h with ⟨a, -, b⟩ | ⟨y, a, b, -⟩
    · exact Or.inl ⟨a, b⟩
    · exact Or.inr ⟨y, a, b⟩
  | succ e ih =>
    intro f1 f2 i v c hi g1 g2 h
    obtain ⟨f1, rfl⟩ : ∃ g, f1 = g + 1 := ⟨f1 - 1, by omega⟩
    obtain ⟨f2, rfl⟩ : ∃ g, f2 = g + 1 := ⟨f2 - 1, by omega⟩
    have e2 : nI (2 * i) + (2 : Int32) = nI (2 * (i + 1)) := nI_2 _
    obtain ⟨y', hy', ey⟩ := (hp i (by omega)).2
    have E1 := ih f1 f2 (i + 1)
    rw [f_X2_dayToldMost_8_s, f_X9_mostTold_6_s, q.sz.1, if_neg (nI_ge (a := 2 * i) (b := 2 * m) (by omega) (by omega)), if_pos hb8, atd (σ := σ) 73 hd, q.sz.2.1, if_neg (nI_ge (a := 2 * i) (b := 2 * m) (by omega) (by omega)), nI_1 (2 * i), cell_eq q (by omega), ob_s, cell_eq q (by omega), ob_s, if_pos (off1_in hd (by omega)), if_pos (off_in hd (by omega)), off_cl hd (by omega), off1_cl hd (by omega), q.el (by omega), q.el (by omega), ey]
    have same : (v = -4 ∧ c = 0 ∧ dmS σ d x (i + 1) = 0 ∨ ∃ y : Nat, y < 365 ∧ v = nI y ∧ c = nI (tmS σ d x (nI y) m)) → ∃ r, f_X2_dayToldMost_79 (2 + 2 * d) x σ (f_X2_dayToldMost_8 (2 + 2 * d) x σ f1) v c (nI (2 * i)) = some r ∧ f_X9_mostTold_97 (nI d) x σ (f_X9_mostTold_6 (nI d) x σ f2) v (nI (2 * i)) = some r ∧ (r = -4 ∧ dmS σ d x m = 0 ∨ ∃ y : Nat, y < 365 ∧ r = nI y) := fun hh => by
      rw [f_X2_dayToldMost_79_e, f_X9_mostTold_97_e, e2]
      exact E1 v c (by omega) (by omega) (by omega) hh
    have take : ∃ r, f_X2_dayToldMost_73 (2 + 2 * d) x σ (f_X2_dayToldMost_8 (2 + 2 * d) x σ f1) (nI (2 * i)) (nI y') (nI (tmS σ d x (nI y') m)) = some r ∧ f_X9_mostTold_94 (nI d) x σ (f_X9_mostTold_6 (nI d) x σ f2) (nI (2 * i)) (nI y') = some r ∧ (r = -4 ∧ dmS σ d x m = 0 ∨ ∃ y : Nat, y < 365 ∧ r = nI y) := by
      rw [f_X2_dayToldMost_73_e, f_X2_dayToldMost_79_e, f_X9_mostTold_94_e, f_X9_mostTold_97_e, e2]
      exact E1 _ _ (by omega) (by omega) (by omega) (Or.inr ⟨y', hy', rfl, rfl⟩)
    by_cases hx : σ (3 + 2 * d) (2 * i) = x
    · have hpos := tm_pos m i (by omega) hx ey
      have ht1 := tm_le (σ := σ) (d := d) (x := x) (y := nI y') m
      rw [if_pos hx, if_pos hx, times_c q, ob_s, f_X2_dayToldMost_48_e]
      rcases h with ⟨rfl, rfl, -⟩ | ⟨y, hy, rfl, rfl⟩
      · rw [if_pos (show (0 : Int32) < nI (tmS σ d x (nI y') m) from nI_lt (a := 0) hpos (by omega)), if_neg (by decide), f_X9_mostTold_76_e, if_pos (by decide)]
        exact take
      · have ht2 := tm_le (σ := σ) (d := d) (x := x) (y := nI y) m
        rw [if_pos (nI_pos' (by omega)), often_r hd q, often_r hd q, ob_s, ob_s, if_neg (nI_n0 (k := y') (by omega)), if_neg (nI_n0 (k := y) (by omega)), f_X9_mostTold_76_e]
        have hz : (0 : Int32) < nI (tmS σ d x (nI y') m) - nI (tmS σ d x (nI y) m) ↔ tmS σ d x (nI y) m < tmS σ d x (nI y') m := by
          rw [i32_lt, pk_sub_toInt (by omega) (by omega), show (0 : Int32).toInt = 0 from rfl]; omega
        have he : nI (tmS σ d x (nI y') m) - nI (tmS σ d x (nI y) m) = 0 ↔ tmS σ d x (nI y') m = tmS σ d x (nI y) m := by
          rw [← Int32.toInt_inj, pk_sub_toInt (by omega) (by omega), show (0 : Int32).toInt = 0 from rfl]; omega
        by_cases c1 : tmS σ d x (nI y) m < tmS σ d x (nI y') m
        · rw [if_pos (nI_lt c1 (by omega)), if_pos (hz.mpr c1)]
          exact take
        · rw [if_neg (nI_nlt (by omega) (by omega)), if_neg (nI_nle hpos (by omega)), if_neg (fun z => c1 (hz.mp z))]
          by_cases c2 : tmS σ d x (nI y') m = tmS σ d x (nI y) m
          · rw [if_pos (by rw [c2]), if_pos (he.mpr c2)]
            by_cases c3 : nI y ≤ nI y'
            · rw [if_pos c3, if_pos c3]
              exact same (Or.inr ⟨y, hy, rfl, rfl⟩)
            · rw [if_neg c3, if_neg c3]
              exact take
          · rw [if_neg (fun z => c2 ((nI_eq (by omega) (by omega)).mp z)), if_neg (fun z => c2 (he.mp z))]
            exact same (Or.inr ⟨y, hy, rfl, rfl⟩)
    · rw [if_neg hx, if_neg hx, f_X2_dayToldMost_48_e]
      have hc : ¬ c < 0 := by
        rcases h with ⟨-, rfl, -⟩ | ⟨y, -, -, rfl⟩
        · decide
        · have := tm_le (σ := σ) (d := d) (x := x) (y := nI y) m
          exact nI_n0 (by omega)
      rw [if_neg hc, if_pos (by decide)]
      refine same ?_
      rcases h with ⟨a, b, c'⟩ | h
      · exact Or.inl ⟨a, b, by rw [show dmS σ d x (i + 1) = dmS σ d x i from if_neg hx]; exact c'⟩
      · exact Or.inr h
theorem most_eq {σ : St} {n d s m : Nat} (hd : d < 8) (q : SR2 σ d s (2 * m)) (hp : pairs σ d n m) (x : Int32) : ∃ r, f_X2_dayToldMost (2 + 2 * d) x σ = some r ∧ f_X9_mostTold (nI d) x σ = some r ∧ (r = -4 ∧ dmS σ d x m = 0 ∨ ∃ y : Nat, y < 365 ∧ r = nI y) := by
  have hN := q.2.1
  exact most_two hd q hp x m fu fu 0 (-4) 0 (by omega) (fu_gt (by omega)) (fu_gt (by omega)) (Or.inl ⟨rfl, rfl, rfl⟩)
theorem p_trueDay {σ : St} (h : Inv σ) (x k : Int32) : ∃ r, f_X8_trueDay x k σ = some r ∧ f_X9_trueDay x k σ = some r := by
  obtain ⟨n, hy⟩ := h.1
  unfold f_X8_trueDay f_X9_trueDay
  rcases deed_two hy k with ⟨j, hj, rfl, e1, e2⟩ | ⟨hx, e1, e2⟩
  · rw [e1, e2, ob_s, ob_s, if_pos rfl]
    show ∃ r, ob (f_X8_shelfAt x σ) _ = some r ∧ _
    by_cases hx : isN x 8
    · obtain ⟨d, hd, rfl⟩ := hx
      rw [shelfAt_y hd]
      show ∃ r, ob (f_X8_diaryRefusal (some (2 + 2 * d)) σ) _ = some r ∧ _
      have bad : ∀ c : Int32, ¬ c = 0 → f_X8_rowRefusal (some (2 + 2 * d)) σ = c → (∀ w, f_X9_wrongRow (nI d) w σ = some c) → f_X8_diaryRefusal (some (2 + 2 * d)) σ = some c ∧ f_X9_wrongDiary (nI d) σ = some c := by
        intro c hc a b
        constructor
        · unfold f_X8_diaryRefusal
          show (if f_X8_rowRefusal (some (2 + 2 * d)) σ = 0 then _ else _) = _
          rw [a, if_neg hc]
        · unfold f_X9_wrongDiary
          rw [b, ob_s, if_neg hc]
      rcases row_two hd (h.2.2 d hd) with ⟨a1, a2⟩ | ⟨a1, a2⟩ | ⟨s, N, q, a1, a2, -⟩
      · obtain ⟨b1, b2⟩ := bad _ (by decide) a1 a2
        rw [b1, b2]
        exact ⟨-11, rfl, rfl⟩
      · obtain ⟨b1, b2⟩ := bad _ (by decide) a1 a2
        rw [b1, b2]
        exact ⟨-12, rfl, rfl⟩
      · rcases diary_two hy hd q a1 a2 with ⟨b1, b2⟩ | ⟨m, rfl, hp, b1, b2⟩
        · rw [b1, b2]
          exact ⟨-13, rfl, rfl⟩
        · obtain ⟨r, r1, r2, -⟩ := most_eq hd q hp (nI j)
          rw [b1, b2, ob_s, ob_s, if_pos rfl, if_pos rfl, r1, r2]
          exact ⟨r, rfl, rfl⟩
    · obtain ⟨a1, a2, a3, -⟩ := row_no (w := -1) (σ := σ) hx
      have b2 : f_X9_wrongDiary x σ = some (-1) := by
        unfold f_X9_wrongDiary
        rw [a3, ob_s, if_neg (by decide)]
      rw [a1, b2]
      exact ⟨-1, rfl, rfl⟩
  · rw [e1, e2]
    exact ⟨_, rfl, rfl⟩
