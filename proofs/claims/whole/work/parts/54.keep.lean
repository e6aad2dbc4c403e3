/-! PURE: shelves that are written: keep, row, put, copy -/
theorem Inv.shelf {σ τ : St} {d : Nat} (hd : d < 8) (h : Inv σ) (h1 : ∀ i : Nat, i ≠ 2 + 2 * d → i ≠ 3 + 2 * d → (i < 69 ∨ 74 < i) → τ i = σ i) (h2 : ∀ i e : Nat, 69 ≤ i → i ≤ 73 → e ≠ d → e < 8 → τ i e = σ i e) (h3 : ∀ j : Nat, (j < 100 * d ∨ 100 * d + 100 ≤ j) → τ 74 j = σ 74 j) (h4 : SR τ d) : Inv τ := by
  obtain ⟨⟨n, hy⟩, hm, hs⟩ := h
  refine ⟨⟨n, hy.congr (h1 _ (by omega) (by omega) (by omega)) (h1 _ (by omega) (by omega) (by omega)) (fun k hk => h1 _ (by omega) (by omega) (by omega))⟩, ?_, fun e he => ?_⟩
  · rw [h1 0 (by omega) (by omega) (by omega), h1 61 (by omega) (by omega) (by omega)]
    rcases hm with hm | ⟨a, b, m, c⟩
    · exact Or.inl hm
    · exact Or.inr ⟨a, b, m, c.congr (h1 _ (by omega) (by omega) (by omega)) (h1 _ (by omega) (by omega) (by omega)) (fun k hk => h1 _ (by omega) (by omega) (by omega))⟩
  · by_cases hed : e = d
    · rw [hed]; exact h4
    · exact (hs e he).congr (h1 _ (by omega) (by omega) (by omega)) (h1 _ (by omega) (by omega) (by omega)) (h2 69 e (by omega) (by omega) hed he) (h2 70 e (by omega) (by omega) hed he) (h2 71 e (by omega) (by omega) hed he) (h2 72 e (by omega) (by omega) hed he) (h2 73 e (by omega) (by omega) hed he) (fun j hj => h3 _ (by omega))
theorem keep_r {τ : St} {d : Nat} (hd : d < 8) (a b c : Int32) : f_X9_keep_44 (nI d) a b c τ = some (0, up (up (up τ 69 d a) 70 d b) 71 d c) := by
  have hb8 : inb (nI d) 8 := inb_nI hd (by decide)
  rw [f_X9_keep_44_e, if_pos hb8, if_pos hb8, if_pos hb8, nI_clamp (n := d) (by omega)]
theorem empty_i {σ : St} {i j : Nat} (h : j ≠ i) : (up (up (up (up σ i 1 0) i 2 (-1)) i 3 (-1)) i 4 0) j = σ j := by rw [up_n h, up_n h, up_n h, up_n h]
theorem p_keep {σ : St} (h : Inv σ) (x y k g : Int32) : ∃ r σ1 σ2, f_X8_keep x y k g σ = some (r, σ1) ∧ f_X9_keep x y k g σ1 = some (r, σ2) ∧ Inv σ2 := by
  unfold f_X8_keep
  by_cases hx : isN x 8
  · obtain ⟨d, hd, rfl⟩ := hx
    rw [shelfAt_y hd]
    show ∃ r σ1 σ2, (if f_X8_isBelow y 2 = true then _ else _) = some (r, σ1) ∧ _
    have ref : f_X8_isBelow y 2 = true → ∀ τ : St, f_X9_keep (nI d) y k g τ = (if y = (1 : Int32) then (if f_X9_isIn k 0 7 = true then (if f_X9_isIn g 0 9 = true then f_X9_keep_44 (nI d) y k g τ else some (-1, τ)) else some (-1, τ)) else f_X9_keep_44 (nI d) y k g τ) := fun hy τ => by
      unfold f_X9_keep
      rw [if_pos (shelf_y hd), yes_if isin1 (below2.mp hy)]
    by_cases hy : f_X8_isBelow y 2 = true
    · rw [if_pos hy]
      by_cases h0 : y = 0
      · subst h0
        rw [if_pos rfl]
        refine ⟨0, _, _, rfl, by rw [ref hy, if_neg (by decide)]; exact keep_r hd _ _ _, ?_⟩
        refine h.shelf hd (fun i a b c => ?_) (fun i e a b c he => ?_) (fun j hj => ?_) (Or.inl ⟨?_, ?_, ?_⟩)
        · rw [up_n (by omega), up_n (by omega), up_n (by omega), empty_i a]
        · have e2 : i ≠ 2 + 2 * d := by omega
          by_cases i1 : i = 71
          · subst i1
            rw [up_s, pk_un c, up_n (by decide), up_n (by decide), empty_i e2]
          · rw [up_n i1]
            by_cases i2 : i = 70
            · subst i2
              rw [up_s, pk_un c, up_n (by decide), empty_i e2]
            · rw [up_n i2]
              by_cases i3 : i = 69
              · subst i3
                rw [up_s, pk_un c, empty_i e2]
              · rw [up_n i3, empty_i e2]
        · rw [up_n (by decide), up_n (by decide), up_n (by decide), empty_i (by omega)]
        · rw [up_n (by omega), up_n (by omega), up_n (by omega), up_s, pk_un (by decide), up_s, pk_un (by decide), up_s, pk_us]
        · rw [up_n (by omega), up_n (by omega), up_n (by omega), up_s, pk_un (by decide), up_s, pk_us]
        · rw [up_n (by decide), up_n (by decide), up_s, pk_us]
      · rw [if_neg h0]
        have h1 : y = 1 := by
          obtain ⟨j, hj, rfl⟩ := below2.mp hy
          have : j = 0 ∨ j = 1 := by omega
          rcases this with rfl | rfl
          · exact absurd rfl h0
          · rfl
        subst h1
        by_cases hk : isN k 8
        · by_cases hg : isN g 10
          · rw [yes_if below8 hk, yes_if below10 hg]
            refine ⟨0, _, _, rfl, by rw [ref hy, if_pos rfl, yes_if isin7 hk, yes_if isin9 hg]; exact keep_r hd _ _ _, ?_⟩
            obtain ⟨a, ha, rfl⟩ := hk
            obtain ⟨b, hb, rfl⟩ := hg
            have hold : ∀ i : Nat, i ≠ 2 + 2 * d → (up (up (up (up (up (up σ (2 + 2 * d) 1 0) (2 + 2 * d) 2 (-1)) (2 + 2 * d) 3 (-1)) (2 + 2 * d) 4 0) (2 + 2 * d) 3 (nI a)) (2 + 2 * d) 4 (nI b)) i = σ i := fun i hi => by rw [up_n hi, up_n hi, empty_i hi]
            refine h.shelf hd (fun i a b c => ?_) (fun i e a b c he => ?_) (fun j hj => ?_) (Or.inr (Or.inl ⟨a, b, ha, hb, ?_, ?_, ?_, ?_, ?_, ?_⟩))
            · rw [up_n (by omega), up_n (by omega), up_n (by omega), hold i a]
            · have e2 : i ≠ 2 + 2 * d := by omega
              by_cases i1 : i = 71
              · subst i1
                rw [up_s, pk_un c, up_n (by decide), up_n (by decide), hold _ e2]
              · rw [up_n i1]
                by_cases i2 : i = 70
                · subst i2
                  rw [up_s, pk_un c, up_n (by decide), hold _ e2]
                · rw [up_n i2]
                  by_cases i3 : i = 69
                  · subst i3
                    rw [up_s, pk_un c, hold _ e2]
                  · rw [up_n i3, hold _ e2]
            · rw [up_n (by decide), up_n (by decide), up_n (by decide), hold _ (by omega)]
            · rw [up_n (by omega), up_n (by omega), up_n (by omega), up_s, pk_un (by decide), up_s, pk_un (by decide), up_s, pk_un (by decide), up_s, pk_un (by decide), up_s, pk_us]
            · rw [up_n (by omega), up_n (by omega), up_n (by omega), up_s, pk_un (by decide), up_s, pk_us]
            · rw [up_n (by omega), up_n (by omega), up_n (by omega), up_s, pk_us]
            · rw [up_n (by decide), up_n (by decide), up_s, pk_us]
            · rw [up_n (by decide), up_s, pk_us]
            · rw [up_s, pk_us]
          · rw [yes_if below8 hk, no_if below10 hg]
            refine ⟨_, _, σ, rfl, ?_, h⟩
            rw [ref hy, if_pos rfl, yes_if isin7 hk, no_if isin9 hg]
        · rw [no_if below8 hk]
          refine ⟨_, _, σ, rfl, ?_, h⟩
          rw [ref hy, if_pos rfl, no_if isin7 hk]
    · rw [if_neg hy]
      refine ⟨_, _, σ, rfl, ?_, h⟩
      unfold f_X9_keep
      rw [if_pos (shelf_y hd), no_if isin1 (fun q => hy (below2.mpr q))]
  · rw [shelfAt_n hx]
    refine ⟨_, _, σ, rfl, ?_, h⟩
    unfold f_X9_keep
    rw [no_if shelf_iff hx]
/-- a row laid -/
def zeroN (σ : St) (i a n : Nat) : St := fun b => if b = i then (fun j => if a ≤ j ∧ j < a + n then 0 else σ i j) else σ b
theorem zero_i {σ : St} {i a n : Nat} : zeroN σ i a n i = fun j => if a ≤ j ∧ j < a + n then 0 else σ i j := if_pos rfl
theorem zero_at {σ : St} {i a n j : Nat} : zeroN σ i a n i j = if a ≤ j ∧ j < a + n then 0 else σ i j := by rw [zero_i]
theorem zero_n {σ : St} {i a n b : Nat} (h : b ≠ i) : zeroN σ i a n b = σ b := if_neg h
theorem zero_0 {σ : St} {i a : Nat} : zeroN σ i a 0 = σ := by
  funext b
  by_cases h : b = i
  · subst h; rw [zero_i]; funext j; exact if_neg (by omega)
  · exact zero_n h
theorem zero_s {σ : St} {i a n : Nat} : up (zeroN σ i a n) i (a + n) 0 = zeroN σ i a (n + 1) := by
  funext b
  by_cases h : b = i
  · subst h
    rw [up_s, zero_i, zero_i]
    funext j
    by_cases hj : j = a + n
    · rw [hj, pk_us, if_pos (by omega)]
    · rw [pk_un hj]
      by_cases hc : a ≤ j ∧ j < a + n
      · rw [if_pos hc, if_pos (by omega)]
      · rw [if_neg hc, if_neg (by omega)]
  · rw [up_n h, zero_n h, zero_n h]
theorem lay_c {σ : St} {i : Nat} {a b : Int32} : f_X5_lay_16 i a b fu 0 σ = some (zeroN σ (i + 1) 0 100) := by
  have e := loop_q (fun f a' k => f_X5_lay_16 i a b f (nI k) a') (fun k => zeroN σ (i + 1) 0 k) 100 (some (zeroN σ (i + 1) 0 100)) ?_ ?_ fu (fu_gt (by decide))
  · rw [zero_0] at e
    exact e
  · intro f k hk
    show f_X5_lay_16 i a b (f + 1) (nI k) _ = f_X5_lay_16 i a b f (nI (k + 1)) _
    rw [f_X5_lay_16_s, if_neg (ge100 hk), if_pos (inb_nI hk (by decide)), nI_clamp (n := k) (by omega), nI_1, ← zero_s (n := k), Nat.zero_add]
  · intro f
    show f_X5_lay_16 i a b (f + 1) (nI 100) _ = _
    rw [f_X5_lay_16_s, if_pos le100]
theorem row_r {σ : St} {d : Nat} {a b : Int32} (hd : d < 8) : f_X9_row_55 (nI d) a b fu 0 σ = some (0, zeroN σ 74 (100 * d) 100) := by
  have e := loop_q (fun f a' k => f_X9_row_55 (nI d) a b f (nI k) a') (fun k => zeroN σ 74 (100 * d) k) 100 (some ((0 : Int32), zeroN σ 74 (100 * d) 100)) ?_ ?_ fu (fu_gt (by decide))
  · rw [zero_0] at e
    exact e
  · intro f k hk
    show f_X9_row_55 (nI d) a b (f + 1) (nI k) _ = f_X9_row_55 (nI d) a b f (nI (k + 1)) _
    rw [f_X9_row_55_s, if_neg (ge100 hk), if_pos (off_in hd hk), off_cl hd hk, nI_1, zero_s]
  · intro f
    show f_X9_row_55 (nI d) a b (f + 1) (nI 100) _ = _
    rw [f_X9_row_55_s, if_pos le100]
theorem p_row {σ : St} (h : Inv σ) (x y z : Int32) : ∃ r σ1 σ2, f_X8_row x y z σ = some (r, σ1) ∧ f_X9_row x y z σ1 = some (r, σ2) ∧ Inv σ2 := by
  unfold f_X8_row f_X9_row
  by_cases hx : isN x 8
  · obtain ⟨d, hd, rfl⟩ := hx
    have hb8 : inb (nI d) 8 := inb_nI hd (by decide)
    rw [shelfAt_y hd]
    show ∃ r σ1 σ2, (if f_X8_isBelow y 3 = true then _ else _) = some (r, σ1) ∧ _
    by_cases hy : isN y 3
    · rw [yes_if below3 hy]
      by_cases h1 : z ≤ (100 : Int32)
      · rw [if_pos h1]
        by_cases h2 : (0 : Int32) ≤ z
        · rw [if_pos h2]
          obtain ⟨s, hs, rfl⟩ := hy
          obtain ⟨n, hn, rfl⟩ : ∃ n : Nat, n ≤ 100 ∧ z = nI n := nI_of2 (M := 100) rfl (Int32.not_lt.mpr h2) h1
          unfold f_X5_lay
          have ee : f_X5_empty (2 + 2 * d) σ = some (up (up (up (up σ (2 + 2 * d) 1 0) (2 + 2 * d) 2 (-1)) (2 + 2 * d) 3 (-1)) (2 + 2 * d) 4 0) := rfl
          rw [ee, ob_s, lay_c, ob_s]
          refine ⟨0, _, zeroN (up (up (up (zeroN (up (up (up (up (up (up σ (2 + 2 * d) 1 0) (2 + 2 * d) 2 (-1)) (2 + 2 * d) 3 (-1)) (2 + 2 * d) 4 0) (2 + 2 * d) 2 (nI s)) (2 + 2 * d) 1 (nI n)) (2 + 2 * d + 1) 0 100) 69 d 2) 72 d (nI s)) 73 d (nI n)) 74 (100 * d) 100, rfl, ?_, ?_⟩
          · rw [if_pos (shelf_y hd), yes_if isin2 ⟨s, hs, rfl⟩, if_pos h1, if_pos h2, if_pos hb8, if_pos hb8, if_pos hb8, nI_clamp (n := d) (by omega)]
            exact row_r hd
          · have lay : ∀ i : Nat, i ≠ 2 + 2 * d → i ≠ 3 + 2 * d → (zeroN (up (up (up (up (up (up σ (2 + 2 * d) 1 0) (2 + 2 * d) 2 (-1)) (2 + 2 * d) 3 (-1)) (2 + 2 * d) 4 0) (2 + 2 * d) 2 (nI s)) (2 + 2 * d) 1 (nI n)) (2 + 2 * d + 1) 0 100) i = σ i := fun i h1 h2 => by
              rw [zero_n (by omega), up_n h1, up_n h1, empty_i h1]
            refine h.shelf hd (fun i a b c => ?_) (fun i e a b c he => ?_) (fun j hj => ?_) (Or.inr (Or.inr ⟨s, n, hs, hn, ?_, ?_, ?_, ?_, ?_, ?_, fun j hj => ?_, fun _ j hj => ?_⟩))
            · rw [zero_n (by omega), up_n (by omega), up_n (by omega), up_n (by omega), lay i a b]
            · rw [zero_n (by omega)]
              have e2 : i ≠ 2 + 2 * d := by omega
              have e3 : i ≠ 3 + 2 * d := by omega
              by_cases i1 : i = 73
              · subst i1
                rw [up_s, pk_un c, up_n (by decide), up_n (by decide), lay _ e2 e3]
              · rw [up_n i1]
                by_cases i2 : i = 72
                · subst i2
                  rw [up_s, pk_un c, up_n (by decide), lay _ e2 e3]
                · rw [up_n i2]
                  by_cases i3 : i = 69
                  · subst i3
                    rw [up_s, pk_un c, lay _ e2 e3]
                  · rw [up_n i3, lay _ e2 e3]
            · rw [zero_at, if_neg (by omega), up_n (by decide), up_n (by decide), up_n (by decide), lay _ (by omega) (by omega)]
            · rw [zero_n (by omega), up_n (by omega), up_n (by omega), up_n (by omega), zero_n (by omega), up_s, pk_un (by decide), up_s, pk_us]
            · rw [zero_n (by omega), up_n (by omega), up_n (by omega), up_n (by omega), zero_n (by omega), up_s, pk_un (by decide), up_s, pk_un (by decide), up_s, pk_un (by decide), up_s, pk_us]
            · rw [zero_n (by omega), up_n (by omega), up_n (by omega), up_n (by omega), zero_n (by omega), up_s, pk_us]
            · rw [zero_n (by omega), up_n (by decide), up_n (by decide), up_s, pk_us]
            · rw [zero_n (by omega), up_n (by decide), up_s, pk_us]
            · rw [zero_n (by omega), up_s, pk_us]
            · rw [zero_at, if_pos (by omega), zero_n (by omega), up_n (by omega), up_n (by omega), up_n (by omega), ← e32, zero_at, if_pos (by omega)]
            · rw [zero_n (by omega), up_n (by omega), up_n (by omega), up_n (by omega), ← e32, zero_at, if_pos (by omega)]
              decide
        · rw [if_neg h2]
          refine ⟨_, _, σ, rfl, ?_, h⟩
          rw [if_pos (shelf_y hd), yes_if isin2 hy, if_pos h1, if_neg h2]
      · rw [if_neg h1]
        refine ⟨_, _, σ, rfl, ?_, h⟩
        rw [if_pos (shelf_y hd), yes_if isin2 hy, if_neg h1]
    · rw [no_if below3 hy]
      refine ⟨_, _, σ, rfl, ?_, h⟩
      rw [if_pos (shelf_y hd), no_if isin2 hy]
  · rw [shelfAt_n hx]
    refine ⟨_, _, σ, rfl, ?_, h⟩
    rw [no_if shelf_iff hx]
