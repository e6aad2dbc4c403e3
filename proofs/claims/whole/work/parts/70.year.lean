/-! PURE: year, the text -/
def isD (c : Int32) : Bool := decide ((48 : Int32) ≤ c ∧ c ≤ (57 : Int32))
theorem isD_iff {c : Int32} : isD c = true ↔ (48 : Int32) ≤ c ∧ c ≤ (57 : Int32) := decide_eq_true_iff
def dgS (T : Nat → Int32) (N : Nat) : Nat → Nat → Nat
  | 0, _ => 0
  | k + 1, p => if p < N ∧ isD (T p) = true then dgS T N k (p + 1) + 1 else 0
theorem dg_s {T : Nat → Int32} {N k p : Nat} : dgS T N (k + 1) p = if p < N ∧ isD (T p) = true then dgS T N k (p + 1) + 1 else 0 := rfl
theorem dg_le {T : Nat → Int32} {N : Nat} : ∀ k p : Nat, dgS T N k p ≤ k
  | 0, _ => Nat.le_refl 0
  | k + 1, p => by
    have := dg_le (T := T) (N := N) k (p + 1)
    rw [dg_s]
    split <;> omega
theorem dg_N {T : Nat → Int32} {N : Nat} : ∀ k p : Nat, p ≤ N → p + dgS T N k p ≤ N
  | 0, _, h => h
  | k + 1, p, h => by
    rw [dg_s]
    by_cases c : p < N ∧ isD (T p) = true
    · have := dg_N (T := T) (N := N) k (p + 1) c.1
      rw [if_pos c]
      omega
    · rw [if_neg c]
      omega
theorem dg_lo {T : Nat → Int32} {N b : Nat} : ∀ a p : Nat, dgS T N a p < a → dgS T N (b + a) p = dgS T N a p
  | 0, _, h => absurd h (Nat.not_lt_zero _)
  | a + 1, p, h => by
    rw [show b + (a + 1) = (b + a) + 1 from rfl, dg_s, dg_s]
    rw [dg_s] at h
    by_cases c : p < N ∧ isD (T p) = true
    · rw [if_pos c] at h
      rw [if_pos c, if_pos c, dg_lo a (p + 1) (by omega)]
    · rw [if_neg c, if_neg c]
theorem dg_hi {T : Nat → Int32} {N b : Nat} : ∀ a p : Nat, dgS T N a p = a → dgS T N (b + a) p = dgS T N b (p + a) + a
  | 0, _, _ => rfl
  | a + 1, p, h => by
    rw [show b + (a + 1) = (b + a) + 1 from rfl, dg_s]
    rw [dg_s] at h
    by_cases c : p < N ∧ isD (T p) = true
    · rw [if_pos c] at h
      rw [if_pos c, dg_hi a (p + 1) (by omega), show p + 1 + a = p + (a + 1) by omega]
      rfl
    · rw [if_neg c] at h
      omega
theorem dg_all {T : Nat → Int32} {N : Nat} : ∀ k p : Nat, dgS T N k p = k → ∀ j : Nat, j < k → p + j < N ∧ isD (T (p + j)) = true
  | 0, _, _ => fun j hj => absurd hj (Nat.not_lt_zero j)
  | k + 1, p, h => by
    intro j hj
    rw [dg_s] at h
    by_cases c : p < N ∧ isD (T p) = true
    · rw [if_pos c] at h
      by_cases h0 : j = 0
      · rw [h0]; exact c
      · have := dg_all (T := T) (N := N) k (p + 1) (by omega) (j - 1) (by omega)
        rw [show p + 1 + (j - 1) = p + j by omega] at this
        exact this
    · rw [if_neg c] at h
      omega
def diS (c : Int32) : Nat := if c = (100 : Int32) then 8 else if c = (115 : Int32) then 2 else if c = (116 : Int32) then 3 else 0
theorem di_c (c : Int32) : f_X6_digitsBehind c = nI (diS c) ∧ diS c ≤ 8 := by
  unfold f_X6_digitsBehind diS
  by_cases h1 : c = (100 : Int32)
  · rw [if_pos h1, if_pos h1]; exact ⟨rfl, by decide⟩
  · rw [if_neg h1, if_neg h1]
    by_cases h2 : c = (115 : Int32)
    · rw [if_pos h2, if_pos h2]; exact ⟨rfl, by decide⟩
    · rw [if_neg h2, if_neg h2]
      by_cases h3 : c = (116 : Int32)
      · rw [if_pos h3, if_pos h3]; exact ⟨rfl, by decide⟩
      · rw [if_neg h3, if_neg h3]; exact ⟨rfl, by decide⟩
/-- one statement from p on: where it stops, and whether it is one -/
def rsS (T : Nat → Int32) (N p : Nat) : Nat × Bool := if p < N ∧ diS (T p) ≠ 0 then (if dgS T N (diS (T p)) (p + 1) < diS (T p) then (p + 1 + dgS T N (diS (T p)) (p + 1), false) else if p + 1 + diS (T p) < N ∧ T (p + 1 + diS (T p)) = (59 : Int32) then (p + diS (T p) + 2, true) else (p + 1 + diS (T p), false)) else (p, false)
theorem rs_lo {T : Nat → Int32} {N p D : Nat} (hp : p < N) (hD : diS (T p) = D) (h : dgS T N D (p + 1) < D) : rsS T N p = (p + 1 + dgS T N D (p + 1), false) := by
  unfold rsS
  rw [hD, if_pos ⟨hp, by omega⟩, if_pos h]
theorem rs_ok {T : Nat → Int32} {N p D : Nat} (hp : p < N) (hD : diS (T p) = D) (h0 : D ≠ 0) (h : dgS T N D (p + 1) = D) (h2 : p + 1 + D < N ∧ T (p + 1 + D) = (59 : Int32)) : rsS T N p = (p + D + 2, true) := by
  unfold rsS
  rw [hD, if_pos ⟨hp, h0⟩, if_neg (by omega), if_pos h2]
theorem rs_no {T : Nat → Int32} {N p D : Nat} (hp : p < N) (hD : diS (T p) = D) (h0 : D ≠ 0) (h : dgS T N D (p + 1) = D) (h2 : ¬ (p + 1 + D < N ∧ T (p + 1 + D) = (59 : Int32))) : rsS T N p = (p + 1 + D, false) := by
  unfold rsS
  rw [hD, if_pos ⟨hp, h0⟩, if_neg (by omega), if_neg h2]
theorem rs_0 {T : Nat → Int32} {N p : Nat} (h : ¬ (p < N ∧ diS (T p) ≠ 0)) : rsS T N p = (p, false) := if_neg h
theorem rs_cases {T : Nat → Int32} {N p : Nat} : (rsS T N p = (p, false) ∧ ¬ (p < N ∧ diS (T p) ≠ 0)) ∨ ∃ D : Nat, p < N ∧ diS (T p) = D ∧ D ≠ 0 ∧ D ≤ 8 ∧ ((dgS T N D (p + 1) < D ∧ rsS T N p = (p + 1 + dgS T N D (p + 1), false)) ∨ (dgS T N D (p + 1) = D ∧ (p + 1 + D < N ∧ T (p + 1 + D) = (59 : Int32)) ∧ rsS T N p = (p + D + 2, true)) ∨ (dgS T N D (p + 1) = D ∧ ¬ (p + 1 + D < N ∧ T (p + 1 + D) = (59 : Int32)) ∧ rsS T N p = (p + 1 + D, false))) := by
  by_cases h : p < N ∧ diS (T p) ≠ 0
  · refine Or.inr ⟨diS (T p), h.1, rfl, h.2, (di_c _).2, ?_⟩
    by_cases h1 : dgS T N (diS (T p)) (p + 1) < diS (T p)
    · exact Or.inl ⟨h1, rs_lo h.1 rfl h1⟩
    · have h1' : dgS T N (diS (T p)) (p + 1) = diS (T p) := by
        have := dg_le (T := T) (N := N) (diS (T p)) (p + 1)
        omega
      by_cases h2 : p + 1 + diS (T p) < N ∧ T (p + 1 + diS (T p)) = (59 : Int32)
      · exact Or.inr (Or.inl ⟨h1', h2, rs_ok h.1 rfl h.2 h1' h2⟩)
      · exact Or.inr (Or.inr ⟨h1', h2, rs_no h.1 rfl h.2 h1' h2⟩)
  · exact Or.inl ⟨rs_0 h, h⟩
theorem rs_N {T : Nat → Int32} {N p : Nat} (hp : p ≤ N) : (rsS T N p).1 ≤ N := by
  rcases rs_cases (T := T) (N := N) (p := p) with ⟨e, -⟩ | ⟨D, hpN, -, -, -, ⟨h, e⟩ | ⟨h, h2, e⟩ | ⟨h, h2, e⟩⟩
  · rw [e]; exact hp
  · rw [e]; exact dg_N _ _ hpN
  · rw [e]; show p + D + 2 ≤ N; omega
  · rw [e]
    have := dg_N (T := T) (N := N) D (p + 1) hpN
    show p + 1 + D ≤ N
    omega
/-- the class's text -/
def Tc (σ : St) (i : Nat) (T : Nat → Int32) (N : Nat) : Prop := N ≤ 100 ∧ σ i 1 = nI N ∧ ∀ j : Nat, j < N → σ (i + 1) j = T j
theorem tc_cell {σ : St} {i N j : Nat} {T : Nat → Int32} (h : Tc σ i T N) (hj : j < N) : f_X5_cell i (nI j) σ = some (T j) := by
  obtain ⟨h1, h2, h3⟩ := h
  unfold f_X5_cell
  rw [if_neg (nI_n0 (by omega)), h2, if_neg (nI_ge hj (by omega)), if_neg (ge100 (by omega)), if_pos (inb_nI (k := j) (by omega) (by decide)), nI_clamp (n := j) (by omega), h3 j hj]
theorem bad_run {σ : St} {i N : Nat} {T : Nat → Int32} (h : Tc σ i T N) : ∀ (D p f : Nat), D < 100 → p ≤ N → D + 1 < f → f_X6_firstBadByte_6 i σ f 1 (nI D) (nI p) = if dgS T N D p < D then some (nI (p + dgS T N D p)) else if p + D < N ∧ T (p + D) = (59 : Int32) then f_X6_firstBadByte_6 i σ (f - (D + 1)) 0 (nI 0) (nI (p + D + 1)) else some (nI (p + D)) := by
  have hN := h.1
  intro D
  induction D with
  | zero =>
    intro p f hD hp hf
    obtain ⟨f, rfl⟩ : ∃ g, f = g + 1 := ⟨f - 1, by omega⟩
    rw [if_neg (Nat.not_lt_zero _), f_X6_firstBadByte_6_s, h.2.1]
    by_cases hpN : p < N
    · rw [if_neg (nI_ge hpN (by omega)), tc_cell h hpN, ob_s, if_neg (show ¬ (1 : Int32) = 0 by decide), if_pos (show nI 0 ≤ 0 by decide)]
      by_cases h59 : T p = (59 : Int32)
      · rw [if_pos h59, f_X6_firstBadByte_79_e, nI_1, if_pos ⟨hpN, h59⟩]
        rfl
      · rw [if_neg h59, if_neg (fun q => h59 q.2)]
        rfl
    · rw [if_pos (nI_le (by omega) (by omega)), if_neg (show ¬ (1 : Int32) = 0 by decide), f_X6_firstBadByte_96_e, h.2.1, if_neg (fun q => hpN q.1)]
      rw [show p + 0 = N by omega]
  | succ D ih =>
    intro p f hD hp hf
    obtain ⟨f, rfl⟩ : ∃ g, f = g + 1 := ⟨f - 1, by omega⟩
    rw [f_X6_firstBadByte_6_s, h.2.1]
    by_cases hpN : p < N
    · rw [if_neg (nI_ge hpN (by omega)), tc_cell h hpN, ob_s, if_neg (show ¬ (1 : Int32) = 0 by decide), if_neg (nI_nle (by omega) (by omega))]
      by_cases hd : isD (T p) = true
      · obtain ⟨d1, d2⟩ := isD_iff.mp hd
        have e1 : dgS T N (D + 1) p = dgS T N D (p + 1) + 1 := by rw [dg_s, if_pos ⟨hpN, hd⟩]
        rw [if_neg (show ¬ T p < (48 : Int32) from fun q => absurd d1 (le_nlt.mpr q)), if_pos d2, f_X6_firstBadByte_79_e, nI_1, pk_m1, ih (p + 1) f (by omega) (by omega) (by omega), e1, show p + 1 + D = p + (D + 1) by omega, show f + 1 - (D + 1 + 1) = f - (D + 1) by omega, show p + 1 + dgS T N D (p + 1) = p + (dgS T N D (p + 1) + 1) by omega]
        by_cases hc : dgS T N D (p + 1) < D
        · rw [if_pos hc, if_pos (Nat.succ_lt_succ hc)]
        · rw [if_neg hc, if_neg (show ¬ dgS T N D (p + 1) + 1 < D + 1 by omega)]
      · have e1 : dgS T N (D + 1) p = 0 := by rw [dg_s, if_neg (show ¬ (p < N ∧ isD (T p) = true) from fun q => hd q.2)]
        rw [e1, if_pos (show 0 < D + 1 from Nat.succ_pos D)]
        by_cases d1 : T p < (48 : Int32)
        · rw [if_pos d1]; rfl
        · rw [if_neg d1, if_neg (show ¬ T p ≤ (57 : Int32) from fun q => hd (isD_iff.mpr ⟨Int32.not_lt.mp d1, q⟩))]
          rfl
    · have e1 : dgS T N (D + 1) p = 0 := by rw [dg_s, if_neg (show ¬ (p < N ∧ isD (T p) = true) from fun q => hpN q.1)]
      rw [if_pos (nI_le (by omega) (by omega)), if_neg (show ¬ (1 : Int32) = 0 by decide), f_X6_firstBadByte_96_e, h.2.1, e1, if_pos (show 0 < D + 1 from Nat.succ_pos D), show p + 0 = N by omega]
theorem bad_st {σ : St} {i N p f : Nat} {T : Nat → Int32} {v2 : Int32} (h : Tc σ i T N) (hp : p < N) (hf : 20 < f) : ∃ f' : Nat, f ≤ f' + 10 ∧ f + p ≤ f' + (rsS T N p).1 ∧ f_X6_firstBadByte_6 i σ f 0 v2 (nI p) = if (rsS T N p).2 = true then f_X6_firstBadByte_6 i σ f' 0 (nI 0) (nI (rsS T N p).1) else some (nI (rsS T N p).1) := by
  have hN := h.1
  obtain ⟨f, rfl⟩ : ∃ g, f = g + 1 := ⟨f - 1, by omega⟩
  rw [f_X6_firstBadByte_6_s, h.2.1, if_neg (nI_ge hp (by omega)), tc_cell h hp, ob_s, if_pos rfl, (di_c (T p)).1]
  rcases rs_cases (T := T) (N := N) (p := p) with ⟨e, h0⟩ | ⟨D, hpN, hD, hD0, hD8, hh⟩
  · refine ⟨f + 1, by omega, by rw [e]; omega, ?_⟩
    have h0' : diS (T p) = 0 := Classical.byContradiction fun q => h0 ⟨hp, q⟩
    rw [h0', if_pos (show nI 0 = 0 from rfl), e, if_neg (show ¬ (p, false).2 = true from Bool.false_ne_true)]
  · rw [hD, if_neg (nI_ne0 (by omega) (by omega)), f_X6_firstBadByte_79_e, nI_1, bad_run h D (p + 1) f (by omega) (by omega) (by omega)]
    rcases hh with ⟨a, e⟩ | ⟨a, b, e⟩ | ⟨a, b, e⟩
    · refine ⟨f + 1, by omega, by rw [e]; show _ ≤ _ + (p + 1 + _); omega, ?_⟩
      rw [if_pos a, e, if_neg (show ¬ (p + 1 + dgS T N D (p + 1), false).2 = true from Bool.false_ne_true)]
    · refine ⟨f - (D + 1), by omega, by rw [e]; show _ ≤ _ + (p + D + 2); omega, ?_⟩
      rw [if_neg (show ¬ dgS T N D (p + 1) < D by omega), if_pos b, e, if_pos (show (p + D + 2, true).2 = true from rfl)]
      rw [show p + 1 + D + 1 = p + D + 2 by omega]
    · refine ⟨f + 1, by omega, by rw [e]; show _ ≤ _ + (p + 1 + D); omega, ?_⟩
      rw [if_neg (show ¬ dgS T N D (p + 1) < D by omega), if_neg b, e, if_neg (show ¬ (p + 1 + D, false).2 = true from Bool.false_ne_true)]
