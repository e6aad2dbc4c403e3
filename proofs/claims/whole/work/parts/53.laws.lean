/-! PURE: law, judge -/
def allS (P : Nat → Bool) : Nat → Bool
  | 0 => true
  | n + 1 => allS P n && P n
theorem all_no {P : Nat → Bool} : ∀ (n j : Nat), j < n → P j = false → allS P n = false
  | 0, j, h, _ => absurd h (Nat.not_lt_zero j)
  | n + 1, j, h, hp => by
    show (allS P n && P n) = false
    by_cases hj : j = n
    · rw [← hj, hp, Bool.and_false]
    · rw [all_no n j (by omega) hp, Bool.false_and]
def okS (σ : St) (d s : Nat) (z : Int32) (j : Nat) : Bool := decide (σ (3 + 2 * d) j = f_X9_leastOf (nI s)) || decide (σ (3 + 2 * d) j = z)
theorem tells_eq {σ : St} {d s n : Nat} (h : SR2 σ d s n) (z : Int32) : f_X5_tellsAlways (2 + 2 * d) z σ = some (allS (okS σ d s z) n) := by
  have hn := h.2.1
  have key : ∀ (e f j : Nat), j + e = n → e < f → allS (okS σ d s z) j = true → f_X5_tellsAlways_2 (2 + 2 * d) z σ f (nI j) = some (allS (okS σ d s z) n) := by
    intro e
    induction e with
    | zero =>
      intro f j hj hf ha
      obtain ⟨f, rfl⟩ : ∃ g, f = g + 1 := ⟨f - 1, by omega⟩
      obtain rfl : j = n := by omega
      rw [f_X5_tellsAlways_2_s, h.sz.1, if_pos (nI_le (Nat.le_refl j) (by omega)), ha]
    | succ e ih =>
      intro f j hj hf ha
      obtain ⟨f, rfl⟩ : ∃ g, f = g + 1 := ⟨f - 1, by omega⟩
      rw [f_X5_tellsAlways_2_s, h.sz.1, if_neg (nI_ge (a := j) (b := n) (by omega) (by omega)), skip_eq h (by omega), ob_s, cell_eq h (by omega), ob_s]
      by_cases h1 : σ (3 + 2 * d) j = f_X9_leastOf (nI s)
      · rw [decide_eq_true h1, if_pos rfl, f_X5_tellsAlways_29_e, nI_1]
        exact ih f (j + 1) (by omega) (by omega) (by show (allS _ j && okS σ d s z j) = true; rw [ha]; simp [okS, h1])
      · rw [decide_eq_false h1, if_neg (by decide)]
        by_cases h2 : σ (3 + 2 * d) j = z
        · rw [if_pos h2, f_X5_tellsAlways_29_e, nI_1]
          exact ih f (j + 1) (by omega) (by omega) (by show (allS _ j && okS σ d s z j) = true; rw [ha]; simp [okS, h2])
        · rw [if_neg h2, all_no n j (by omega) (by simp [okS, h1, h2])]
  exact key n fu 0 (by omega) (fu_gt (by omega)) rfl
def lwS (σ : St) (d s n : Nat) (g : Nat → Int32) : Nat → Int32 := maskS (fun v => allS (okS σ d s (g v)) n)
theorem and_b : ∀ a b : Bool, (if a = true then (1 : Int32) else 0) &&& (if b = true then (1 : Int32) else 0) = if (a && b) = true then (1 : Int32) else 0 := by decide
/-- the reference's inner loop -/
theorem law_in {σ : St} {d s n v x3' : Nat} {x2 x3 z : Int32} (hd : d < 8) (h : SR2 σ d s n) (rec52 : Int32 → Int32 → Option Int32) (a : Int32) (hz : (if x3 = 0 then f_X9_lasts (nI v) x2 else f_X9_lasts x2 (nI v)) = z) : f_X9_law_74 (nI d) x2 x3 σ rec52 fu a (nI v) 1 0 = rec52 (a ||| (if allS (okS σ d s z) n = true then (1 : Int32) <<< (nI v &&& 31) else 0)) (nI (v + 1)) := by
  have hn := h.2.1
  have hb8 : inb (nI d) 8 := inb_nI hd (by decide)
  refine loop_q (fun f q j => f_X9_law_74 (nI d) x2 x3 σ rec52 f a (nI v) q (nI j)) (fun j => if allS (okS σ d s z) j = true then (1 : Int32) else 0) n (rec52 (a ||| (if allS (okS σ d s z) n = true then (1 : Int32) <<< (nI v &&& 31) else 0)) (nI (v + 1))) ?_ ?_ fu (fu_gt (by omega))
  · intro f j hj
    show f_X9_law_74 (nI d) x2 x3 σ rec52 (f + 1) a (nI v) (if allS (okS σ d s z) j = true then (1 : Int32) else 0) (nI j) = f_X9_law_74 (nI d) x2 x3 σ rec52 f a (nI v) (if (allS (okS σ d s z) j && okS σ d s z j) = true then (1 : Int32) else 0) (nI (j + 1))
    rw [f_X9_law_74_s, if_pos hb8, atd (σ := σ) 73 hd, h.sz.2.1, if_neg (nI_ge hj (by omega)), if_pos (off_in hd (by omega)), if_pos hb8, off_cl hd (by omega), h.el hj, atd (σ := σ) 72 hd, h.sz.2.2.2, ← and_b]
    have step : ∀ c : Int32, c = (if okS σ d s z j = true then (1 : Int32) else 0) → f_X9_law_144 (nI d) x2 x3 σ rec52 (f_X9_law_74 (nI d) x2 x3 σ rec52 f) a (nI v) (nI j) (if allS (okS σ d s z) j = true then (1 : Int32) else 0) c = f_X9_law_74 (nI d) x2 x3 σ rec52 f a (nI v) ((if allS (okS σ d s z) j = true then (1 : Int32) else 0) &&& (if okS σ d s z j = true then (1 : Int32) else 0)) (nI (j + 1)) := by
      intro c hc
      rw [f_X9_law_144_e, nI_1, hc]
    by_cases h1 : σ (3 + 2 * d) j = f_X9_leastOf (nI s)
    · rw [if_pos h1, f_X9_law_139_e]
      exact step 1 (by rw [if_pos (by simp [okS, h1])])
    · rw [if_neg h1]
      have g136 : f_X9_law_136 (nI d) x2 x3 σ rec52 (f_X9_law_74 (nI d) x2 x3 σ rec52 f) a (nI v) (nI j) (if allS (okS σ d s z) j = true then (1 : Int32) else 0) (σ (3 + 2 * d) j) z = f_X9_law_74 (nI d) x2 x3 σ rec52 f a (nI v) ((if allS (okS σ d s z) j = true then (1 : Int32) else 0) &&& (if okS σ d s z j = true then (1 : Int32) else 0)) (nI (j + 1)) := by
        rw [f_X9_law_136_e]
        by_cases h2 : σ (3 + 2 * d) j = z
        · rw [if_pos h2, f_X9_law_139_e]
          exact step 1 (by rw [if_pos (by simp [okS, h2])])
        · rw [if_neg h2]
          exact step 0 (by rw [if_neg (by simp [okS, h1, h2])])
      by_cases h0 : x3 = 0
      · rw [if_pos h0] at hz ⊢
        rw [hz]
        exact g136
      · rw [if_neg h0] at hz ⊢
        rw [hz]
        exact g136
  · intro f
    show f_X9_law_74 (nI d) x2 x3 σ rec52 (f + 1) a (nI v) (if allS (okS σ d s z) n = true then (1 : Int32) else 0) (nI n) = _
    rw [f_X9_law_74_s, if_pos hb8, atd (σ := σ) 73 hd, h.sz.2.1, if_pos (nI_le (Nat.le_refl n) (by omega))]
    by_cases hc : allS (okS σ d s z) n = true
    · rw [if_pos hc, if_pos hc, if_neg (by decide), f_X9_law_168_e, nI_1]
    · rw [if_neg hc, if_neg hc, if_pos rfl, f_X9_law_168_e, nI_1]
theorem law_r {σ : St} {d s n N : Nat} {x2 x3 : Int32} {g : Nat → Int32} (hd : d < 8) (h : SR2 σ d s n) (hN : N ≤ 10) (hN3 : (if x3 = 0 then (8 : Int32) else 10) = nI N) (hg : ∀ v : Nat, v < N → (if x3 = 0 then f_X9_lasts (nI v) x2 else f_X9_lasts x2 (nI v)) = g v) : f_X9_law_52 (nI d) x2 x3 σ fu 0 0 = some (lwS σ d s n g N) := by
  refine loop_r (fun f a v => f_X9_law_52 (nI d) x2 x3 σ f a (nI v)) (lwS σ d s n g) N ?_ ?_ fu (fu_gt (by omega))
  · intro f v hv
    show f_X9_law_52 (nI d) x2 x3 σ (f + 1) _ (nI v) = f_X9_law_52 (nI d) x2 x3 σ f (maskS (fun v => allS (okS σ d s (g v)) n) (v + 1)) (nI (v + 1))
    rw [f_X9_law_52_s, f_X9_law_65_e, f_X9_law_65_e, maskS_s]
    have e := law_in (x3' := 0) (v := v) hd h (f_X9_law_52 (nI d) x2 x3 σ f) (lwS σ d s n g v) (hg v hv)
    by_cases h0 : x3 = 0
    · rw [if_pos h0] at hN3 ⊢
      rw [hN3, if_neg (nI_ge hv (by omega))]
      exact e
    · rw [if_neg h0] at hN3 ⊢
      rw [hN3, if_neg (nI_ge hv (by omega))]
      exact e
  · intro f
    show f_X9_law_52 (nI d) x2 x3 σ (f + 1) _ (nI N) = _
    rw [f_X9_law_52_s, f_X9_law_65_e, f_X9_law_65_e]
    by_cases h0 : x3 = 0
    · rw [if_pos h0] at hN3 ⊢
      rw [hN3, if_pos (nI_le (Nat.le_refl N) (by omega))]
    · rw [if_neg h0] at hN3 ⊢
      rw [hN3, if_pos (nI_le (Nat.le_refl N) (by omega))]
theorem law_c {σ : St} {d s n N : Nat} {x1 x2 x3 : Int32} {g : Nat → Int32} (h : SR2 σ d s n) (hN : N ≤ 10) (hg : ∀ v : Nat, v < N → (if x3 = 0 then f_X4_lasting (nI v) x2 else f_X4_lasting x2 (nI v)) = g v) : f_X8_law_74 x1 x2 x3 σ fu (2 + 2 * d) 0 (nI N) 0 = some (lwS σ d s n g N) := by
  refine loop_r (fun f a v => f_X8_law_74 x1 x2 x3 σ f (2 + 2 * d) a (nI N) (nI v)) (lwS σ d s n g) N ?_ ?_ fu (fu_gt (by omega))
  · intro f v hv
    show f_X8_law_74 x1 x2 x3 σ (f + 1) (2 + 2 * d) _ (nI N) (nI v) = f_X8_law_74 x1 x2 x3 σ f (2 + 2 * d) (maskS (fun v => allS (okS σ d s (g v)) n) (v + 1)) (nI N) (nI (v + 1))
    have e : f_X8_law_100 x1 x2 x3 σ (f_X8_law_74 x1 x2 x3 σ f) (2 + 2 * d) (lwS σ d s n g v) (nI N) (nI v) (g v) = f_X8_law_74 x1 x2 x3 σ f (2 + 2 * d) (lwS σ d s n g v ||| (if allS (okS σ d s (g v)) n = true then (1 : Int32) <<< (nI v &&& 31) else 0)) (nI N) (nI (v + 1)) := by
      rw [f_X8_law_100_e, tells_eq h, ob_s]
      by_cases hc : allS (okS σ d s (g v)) n = true
      · rw [if_pos hc, if_pos hc, f_X8_law_121_e, nI_1]
      · rw [if_neg hc, if_neg hc, f_X8_law_121_e, nI_1, or0]
    have hv2 := hg v hv
    rw [f_X8_law_74_s, if_neg (nI_ge hv (by omega)), maskS_s]
    by_cases h0 : x3 = 0
    · rw [if_pos h0] at hv2 ⊢
      rw [hv2]
      exact e
    · rw [if_neg h0] at hv2 ⊢
      rw [hv2]
      exact e
  · intro f
    show f_X8_law_74 x1 x2 x3 σ (f + 1) (2 + 2 * d) _ (nI N) (nI N) = _
    rw [f_X8_law_74_s, if_pos (nI_le (Nat.le_refl N) (by omega))]
theorem p_law {σ : St} (h : Inv σ) (x y z : Int32) : ∃ r, f_X8_law x y z σ = some r ∧ f_X9_law x y z σ = some r := by
  unfold f_X8_law f_X9_law
  by_cases hz : isN z 2
  · rw [yes_if below2 hz, yes_if isin1 hz]
    have main : ∀ N : Nat, N ≤ 10 → ∀ M : Nat, (isN y M → ∀ s n d : Nat, d < 8 → SR2 σ d s n → ∃ g : Nat → Int32, (∀ v : Nat, v < N → (if z = 0 then f_X4_lasting (nI v) y else f_X4_lasting y (nI v)) = g v) ∧ ∀ v : Nat, v < N → (if z = 0 then f_X9_lasts (nI v) y else f_X9_lasts y (nI v)) = g v) → (if z = 0 then (8 : Int32) else 10) = nI N → (f_X8_isBelow y (nI M) = true ↔ isN y M) → (∀ b : Int32, (f_X9_isIn y 0 b = true ↔ isN y M) → ∃ r, f_X8_law_20 x y z σ y (nI M) = some r ∧ f_X9_law_22 x y z σ y 0 b = some r) := by
      intro N hN M hg hN3 hM b hb
      rw [f_X8_law_20_e, f_X9_law_22_e]
      by_cases hy : isN y M
      · rw [yes_if hM hy, yes_if hb hy]
        by_cases hx : isN x 8
        · obtain ⟨d, hd, rfl⟩ := hx
          rw [shelfAt_y hd]
          show ∃ r, (if f_X8_rowRefusal (some (2 + 2 * d)) σ = 0 then _ else _) = some r ∧ _
          rcases row_two hd (h.2.2 d hd) with ⟨e1, e2⟩ | ⟨e1, e2⟩ | ⟨s, n, q, e1, e2, -⟩
          · rw [e1, e2, if_neg (by decide), ob_s, if_neg (by decide)]
            exact ⟨_, rfl, rfl⟩
          · rw [e1, e2, if_neg (by decide), ob_s, if_neg (by decide)]
            exact ⟨_, rfl, rfl⟩
          · obtain ⟨g, g1, g2⟩ := hg hy s n d hd q
            rw [e1, e2, if_pos rfl, ob_s, if_pos rfl, law_r hd q hN hN3 g2, f_X8_law_69_e, f_X8_law_69_e]
            refine ⟨_, ?_, rfl⟩
            have e := law_c (x1 := nI d) q hN g1
            by_cases h0 : z = 0
            · rw [if_pos h0] at hN3 ⊢
              rw [hN3]; exact e
            · rw [if_neg h0] at hN3 ⊢
              rw [hN3]; exact e
        · obtain ⟨e1, e2, e3, -⟩ := row_no (w := -1) (σ := σ) hx
          rw [e1, e3]
          exact ⟨-1, rfl, rfl⟩
      · rw [no_if hM hy, no_if hb hy]
        exact ⟨_, rfl, rfl⟩
    by_cases h0 : z = 0
    · rw [if_pos h0, if_pos h0]
      refine main 8 (by decide) 10 (fun hy s n d hd q => ⟨fun v => f_X4_lasting (nI v) y, fun v hv => by rw [if_pos h0], fun v hv => ?_⟩) (by rw [if_pos h0]; rfl) below10 9 isin9
      obtain ⟨b, hb, rfl⟩ := hy
      rw [if_pos h0]
      exact lasts_eq v hv b hb
    · rw [if_neg h0, if_neg h0]
      refine main 10 (by decide) 8 (fun hy s n d hd q => ⟨fun v => f_X4_lasting y (nI v), fun v hv => by rw [if_neg h0], fun v hv => ?_⟩) (by rw [if_neg h0]; rfl) below8 7 isin7
      obtain ⟨b, hb, rfl⟩ := hy
      rw [if_neg h0]
      exact lasts_eq b hb v hv
  · rw [no_if below2 hz, no_if isin1 hz]
    exact ⟨_, rfl, rfl⟩
/-- judge -/
def Cj (σ τ : St) : Prop := (∀ i : Nat, i ≠ 63 → τ i = σ i) ∧ ∀ j : Nat, j < 52 → j ≠ 1 → τ 63 j = σ 62 j
theorem Cj.up {σ τ : St} (h : Cj σ τ) (v : Int32) : Cj σ (up τ 63 1 v) := ⟨fun i hi => by rw [up_n hi, h.1 i hi], fun j hj h1 => by rw [up_s, pk_un h1, h.2 j hj h1]⟩
theorem Cj.rd {σ τ : St} {n : Nat} (h : Cj σ τ) (hy : YR σ 21 62 n) : RD τ 21 63 n := by
  have hn := hy.1
  refine ⟨hn, by rw [h.2 0 (by decide) (by decide)]; exact hy.2.2.1, fun k hk => (hy.d hk).1.congr (h.1 _ (by omega)), fun k hk => ?_⟩
  have q := (hy.d hk).2
  unfold DRel at q ⊢
  rw [show (21 + 1 + 2 + k) = 24 + k by omega, h.1 (24 + k) (by omega), h.2 _ (by omega) (by omega), h.2 _ (by omega) (by omega), h.2 _ (by omega) (by omega), h.2 _ (by omega) (by omega), h.2 _ (by omega) (by omega)]
  exact q
theorem judge_two {σ : St} {n d s N : Nat} {p : Int32} (hy : YR σ 21 62 n) (hd : d < 8) (q : SR2 σ d s N) (x1 : Int32) : ∀ (e f1 f2 j : Nat) (τ : St), j + e = N → e < f1 → e < f2 → Cj σ τ → ∃ r ρ, f_X8_judge_37 x1 p σ f1 (2 + 2 * d) (nI j) = some r ∧ f_X9_judge_36 (nI d) p f2 (nI j) τ = some (r, ρ) ∧ ∀ i : Nat, i ≠ 63 → ρ i = σ i := by
  have hn := hy.1
  have hN := q.2.1
  have hb8 : inb (nI d) 8 := inb_nI hd (by decide)
  intro e
  induction e with
  | zero =>
    intro f1 f2 j τ hj g1 g2 h
    obtain ⟨f1, rfl⟩ : ∃ g, f1 = g + 1 := ⟨f1 - 1, by omega⟩
    obtain ⟨f2, rfl⟩ : ∃ g, f2 = g + 1 := ⟨f2 - 1, by omega⟩
    obtain rfl : j = N := by omega
    rw [f_X8_judge_37_s, f_X9_judge_36_s, q.sz.1, if_pos (nI_le (Nat.le_refl j) (by omega)), if_pos hb8, atd (σ := τ) 73 hd, h.1 73 (by decide), q.sz.2.1, if_pos (nI_le (Nat.le_refl j) (by omega))]
    exact ⟨_, _, rfl, rfl, h.1⟩
  | succ e ih =>
    intro f1 f2 j τ hj g1 g2 h
    obtain ⟨f1, rfl⟩ : ∃ g, f1 = g + 1 := ⟨f1 - 1, by omega⟩
    obtain ⟨f2, rfl⟩ : ∃ g, f2 = g + 1 := ⟨f2 - 1, by omega⟩
    have e62 : τ 62 1 = σ 21 3 := by rw [h.1 62 (by decide)]; exact hy.2.2.2.2.1
    have el : f_X9_least (365 : Int32) (σ 21 3 + nI j) = (if (365 : Int32) < σ 21 3 + nI j then (365 : Int32) else σ 21 3 + nI j) := by
      unfold f_X9_least
      by_cases hc : σ 21 3 + nI j ≤ 365
      · rw [if_pos hc, if_neg (fun z => absurd hc (le_nlt.mpr z))]
      · rw [if_neg hc, if_pos (le_nlt.mp hc)]
    rw [f_X8_judge_37_s, f_X9_judge_36_s, q.sz.1, if_neg (nI_ge (a := j) (b := N) (by omega) (by omega)), if_pos hb8, atd (σ := τ) 73 hd, h.1 73 (by decide), q.sz.2.1, if_neg (nI_ge (a := j) (b := N) (by omega) (by omega)), if_pos (off_in hd (by omega)), if_pos hb8, off_cl hd (by omega), h.1 74 (by decide), q.el (by omega), e62, el, skip_eq q (by omega), ob_s, cell_eq q (by omega), ob_s, memoryOf_eq hy.1 hy.2.1, ob_s]
    generalize (if (365 : Int32) < σ 21 3 + nI j then (365 : Int32) else σ 21 3 + nI j) = t
    have hC := h.up t
    have e72 : (up τ 63 1 t) 72 (nI d).toNatClampNeg = nI s := by rw [atd (σ := up τ 63 1 t) 72 hd, hC.1 72 (by decide), q.sz.2.2.2]
    have ek : f_X9_knowsIn 63 p (up τ 63 1 t) = some (maskS (fun k => f_X1_isKept (21 + 1 + 2 + k) p t σ) n) := by
      rw [knowsIn_eq (hC.rd hy), up_s, pk_us]
      exact congrArg some (maskS_congr (fun k hk => kept_congr (by rw [up_n (by omega), h.1 _ (by omega)])))
    obtain ⟨v, hv, ev⟩ := mask_rng (P := fun k => f_X1_isKept (21 + 1 + 2 + k) p t σ) (n := n) (by omega)
    have hv2 : v < 1024 := Nat.lt_of_lt_of_le hv (Nat.pow_le_pow_right (n := 2) (by decide) (show n ≤ 10 from hn))
    rw [e72]
    by_cases h1 : σ (3 + 2 * d) j = f_X9_leastOf (nI s)
    · rw [decide_eq_true h1, if_pos rfl, if_pos h1, f_X8_judge_98_e, f_X9_judge_115_e, nI_1]
      exact ih f1 f2 (j + 1) _ (by omega) (by omega) (by omega) hC
    · rw [decide_eq_false h1, if_neg (by decide), if_neg h1, ek, ob_s, ev, pop_bits hv2, ob_s]
      by_cases h2 : σ (3 + 2 * d) j = f_J6_bitCount_0f7a4 (nI v)
      · rw [if_pos h2, if_pos h2, f_X8_judge_98_e, f_X9_judge_115_e, nI_1]
        exact ih f1 f2 (j + 1) _ (by omega) (by omega) (by omega) hC
      · rw [if_neg h2, if_neg h2]
        exact ⟨_, _, rfl, rfl, hC.1⟩
theorem p_judge {σ : St} (h : Inv σ) (x p : Int32) : ∃ r σ2, f_X8_judge x p σ = some r ∧ f_X9_judge x p σ = some (r, σ2) ∧ Inv σ2 := by
  obtain ⟨n, hy⟩ := h.1
  unfold f_X8_judge f_X9_judge
  by_cases hp : isN p 5
  · rw [yes_if below5 hp, yes_if person_iff hp]
    by_cases hx : isN x 8
    · obtain ⟨d, hd, rfl⟩ := hx
      rw [shelfAt_y hd]
      show ∃ r σ2, (if f_X8_rowRefusal (some (2 + 2 * d)) σ = 0 then _ else _) = some r ∧ _
      rcases row_two hd (h.2.2 d hd) with ⟨e1, e2⟩ | ⟨e1, e2⟩ | ⟨s, N, q, e1, e2, -⟩
      · rw [e1, e2, if_neg (by decide), ob_s, if_neg (by decide)]
        exact ⟨_, _, rfl, rfl, h⟩
      · rw [e1, e2, if_neg (by decide), ob_s, if_neg (by decide)]
        exact ⟨_, _, rfl, rfl, h⟩
      · have hN := q.2.1
        have hC : Cj σ (cp52 σ 62 63 52) := ⟨fun i hi => cp52_n hi, fun j hj _ => by
          rw [cp52_j]
          exact if_pos hj⟩
        obtain ⟨r, ρ, r1, r2, r3⟩ := judge_two (p := p) hy hd q (nI d) N fu fu 0 _ (by omega) (fu_gt (by omega)) (fu_gt (by omega)) hC
        rw [e1, e2, if_pos rfl, ob_s, if_pos rfl, copies_eq (by decide), ob_s]
        exact ⟨r, ρ, r1, r2, (same63 r3).inv h⟩
    · obtain ⟨e1, e2, e3, -⟩ := row_no (w := -1) (σ := σ) hx
      rw [e1, e3]
      exact ⟨-1, σ, rfl, rfl, h⟩
  · rw [no_if below5 hp, no_if person_iff hp]
    exact ⟨_, _, rfl, rfl, h⟩
