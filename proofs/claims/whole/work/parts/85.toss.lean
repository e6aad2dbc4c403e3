/-! PURE: toss, element -/
def tsR (x y : Int32) : Option Int32 := if x = (4 : Int32) then some (-15) else if x = (6 : Int32) then some (-15) else if y = 0 then some (-15) else if x = (7 : Int32) then some ((200 : Int32) + f_X9_costBy x y) else if x = (1 : Int32) then some ((100 : Int32) + y) else if x = (5 : Int32) then some ((100 : Int32) + y) else some y
theorem toss_eq : ∀ a : Nat, a < 8 → ∀ b : Nat, b < 10 → tsR (nI a) (nI b) = some (f_X8_caught (nI a) (nI b)) := by decide +kernel
theorem p_toss {σ : St} (h : Inv σ) (x : Int32) : ∃ r, f_X8_toss x σ = some r ∧ f_X9_toss x σ = some r := by
  unfold f_X8_toss f_X9_toss
  by_cases hx : isN x 8
  · obtain ⟨d, hd, rfl⟩ := hx
    rw [shelfAt_y hd]
    show ∃ r, (if f_X8_kindRefusal (some (2 + 2 * d)) σ = 0 then _ else _) = some r ∧ _
    rcases kind_two hd (h.2.2 d hd) with ⟨c, hc, e1, e2⟩ | ⟨⟨a, b, ha, hb, h1, h2, h3, h4, h5, h6⟩, e1, e2⟩
    · rw [e1, e2, if_neg hc, f_X8_toss_19_e, ob_s, if_neg hc]
      exact ⟨_, rfl, rfl⟩
    · have hb8 : inb (nI d) 8 := inb_nI hd (by decide)
      rw [e1, e2, if_pos rfl, ob_s, if_pos rfl, if_pos hb8, if_pos hb8, atd (σ := σ) 70 hd, atd (σ := σ) 71 hd, h2, h3, h5, h6]
      exact ⟨_, rfl, toss_eq a ha b hb⟩
  · obtain ⟨e1, e2, -, e3, e4⟩ := row_no (w := 0) (σ := σ) hx
    rw [e1, e3]
    refine ⟨-1, ?_, ?_⟩
    · show f_X8_toss_19 x σ (f_X8_kindRefusal none σ) = _
      rw [f_X8_toss_19_e, e4]
    · rw [ob_s, if_neg (by decide)]
theorem same20 {σ τ : St} {v : Int32} (h1 : ∀ i : Nat, i ≠ 75 → τ i = σ i) : Same σ (up τ 61 20 v) := by
  refine ⟨fun i hi => ?_, ?_, ?_⟩
  · rw [up_n (by omega), h1 i (by omega)]
  · rw [up_n (by decide), h1 0 (by decide)]
  · rw [up_s, pk_un (by decide), h1 61 (by decide)]
theorem p_element {σ : St} (h : Inv σ) (x y : Int32) : ∃ o : Nat × Int32, f_X8_element x y σ = some o ∧ (o.1 = 0 ∨ o.1 = 1 ∨ o.1 = 2) ∧ ∀ τ : St, (∀ i : Nat, i ≠ 75 → τ i = σ i) → ∃ b σ2, f_X9_element x y τ = some (b, σ2) ∧ σ2 61 20 = nI o.1 ∧ (o.1 = 0 → b = o.2.toInt64) ∧ Inv σ2 ∧ σ2 75 = τ 75 := by
  have fin : ∀ (τ : St) (v : Int32) (z : Int64) (k : Nat), (∀ i : Nat, i ≠ 75 → τ i = σ i) → v = nI k → (some (z, up τ 61 20 v) : Option (Int64 × St)) = some (z, up τ 61 20 v) ∧ (up τ 61 20 v) 61 20 = nI k ∧ Inv (up τ 61 20 v) ∧ (up τ 61 20 v) 75 = τ 75 := by
    intro τ v z k h1 hv
    exact ⟨rfl, by rw [up_s, pk_us, hv], (same20 h1).inv h, up_n (by decide)⟩
  have e43 : ∀ (τ : St) (v : Int32), ¬ v = 0 → f_X9_element_43 x y 61 v τ = some ((0 : Int64), up τ 61 20 v) := by
    intro τ v hv
    unfold f_X9_element_43
    rw [if_neg (by rw [up_s, pk_us]; exact hv)]
  unfold f_X8_element
  by_cases hx : isN x 8
  · obtain ⟨d, hd, rfl⟩ := hx
    have hb8 : inb (nI d) 8 := inb_nI hd (by decide)
    rw [shelfAt_y hd, ob_s]
    show ∃ o : Nat × Int32, (if f_X5_hasRow (2 + 2 * d) σ = true then _ else _) = some o ∧ _
    have no : ∀ τ : St, (∀ i : Nat, i ≠ 75 → τ i = σ i) → ¬ σ 69 d = (2 : Int32) → f_X9_element (nI d) y τ = some ((0 : Int64), up τ 61 20 2) := by
      intro τ h1 h2
      unfold f_X9_element f_X9_element_38
      rw [if_pos (shelf_y hd), if_pos hb8, atd (σ := τ) 69 hd, h1 69 (by decide), if_neg h2, e43 τ 2 (by decide)]
    have norow : f_X5_hasRow (2 + 2 * d) σ = false → ¬ σ 69 d = (2 : Int32) → ∃ o : Nat × Int32, (if f_X5_hasRow (2 + 2 * d) σ = true then (if f_X8_isBelow y (σ (2 + 2 * d) 1) = true then ob (f_X5_cell (2 + 2 * d) y σ) (fun q6 => some (0, q6)) else some (2, 0)) else some (2, 0)) = some o ∧ (o.1 = 0 ∨ o.1 = 1 ∨ o.1 = 2) ∧ ∀ τ : St, (∀ i : Nat, i ≠ 75 → τ i = σ i) → ∃ b σ2, f_X9_element (nI d) y τ = some (b, σ2) ∧ σ2 61 20 = nI o.1 ∧ (o.1 = 0 → b = o.2.toInt64) ∧ Inv σ2 ∧ σ2 75 = τ 75 := by
      intro hr h2
      rw [hr, if_neg (by decide)]
      refine ⟨(2, 0), rfl, Or.inr (Or.inr rfl), fun τ h1 => ?_⟩
      obtain ⟨-, f2, f3, f4⟩ := fin τ 2 0 2 h1 rfl
      exact ⟨0, _, no τ h1 h2, f2, fun z => absurd z (by decide), f3, f4⟩
    rcases h.2.2 d hd with q | q | ⟨s, n, q⟩
    · refine norow ?_ ?_
      · unfold f_X5_hasRow
        rw [q.1, if_pos rfl]
      · rw [q.2.2]; decide
    · obtain ⟨a, b, ha, hb, g1, g2, g3, g4, -⟩ := q
      refine norow ?_ ?_
      · unfold f_X5_hasRow
        rw [g1, if_pos rfl]
      · rw [g4]; decide
    · have hr : f_X5_hasRow (2 + 2 * d) σ = true := by
        unfold f_X5_hasRow
        rw [q.2.2.1, if_neg (small_ne s (by have := q.1; omega))]
      obtain ⟨b1, b2⟩ := put_below (y := y) q
      rw [hr, if_pos rfl, q.sz.1]
      have kept2 : ∀ τ : St, (∀ i : Nat, i ≠ 75 → τ i = σ i) → f_X9_element (nI d) y τ = if f_X9_isIn y 0 (nI n - 1) = true then f_X9_element_43 (nI d) y 61 0 τ else f_X9_element_38 (nI d) y 61 τ := by
        intro τ h1
        unfold f_X9_element
        rw [if_pos (shelf_y hd), if_pos hb8, atd (σ := τ) 69 hd, h1 69 (by decide), q.2.2.2.2.2.1, if_pos rfl, if_pos hb8, atd (σ := τ) 73 hd, h1 73 (by decide), q.sz.2.1]
      by_cases hy : isN y n
      · obtain ⟨j, hj, rfl⟩ := hy
        have hn := q.2.1
        rw [if_pos (b1.mpr ⟨j, hj, rfl⟩), cell_eq q hj, ob_s]
        refine ⟨(0, σ (3 + 2 * d) j), rfl, Or.inl rfl, fun τ h1 => ?_⟩
        obtain ⟨-, f2, f3, f4⟩ := fin τ 0 0 0 h1 rfl
        refine ⟨(σ (3 + 2 * d) j).toInt64, up τ 61 20 0, ?_, f2, fun _ => rfl, f3, f4⟩
        rw [kept2 τ h1, if_pos (b2.mpr ⟨j, hj, rfl⟩)]
        unfold f_X9_element_43
        rw [if_pos (by rw [up_s, pk_us]), if_pos (off_in hd (by omega)), off_cl hd (by omega), up_n (show (74 : Nat) ≠ 61 by decide), h1 74 (by decide), q.el hj]
      · rw [if_neg (fun z => hy (b1.mp z))]
        refine ⟨(2, 0), rfl, Or.inr (Or.inr rfl), fun τ h1 => ?_⟩
        obtain ⟨-, f2, f3, f4⟩ := fin τ 2 0 2 h1 rfl
        refine ⟨0, _, ?_, f2, fun z => absurd z (by decide), f3, f4⟩
        rw [kept2 τ h1, if_neg (fun z => hy (b2.mp z))]
        unfold f_X9_element_38
        exact e43 τ 2 (by decide)
  · rw [shelfAt_n hx, ob_s]
    refine ⟨(1, 0), rfl, Or.inr (Or.inl rfl), fun τ h1 => ?_⟩
    obtain ⟨-, f2, f3, f4⟩ := fin τ 1 0 1 h1 rfl
    refine ⟨0, _, ?_, f2, fun z => absurd z (by decide), f3, f4⟩
    unfold f_X9_element
    rw [if_neg (fun z => hx (shelf_iff.mp z))]
    exact e43 τ 1 (by decide)
