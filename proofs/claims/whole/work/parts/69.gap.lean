/-! PURE: gap, the reference's way by days -/
theorem b2_and : ∀ a b : Bool, b2i a &&& (if b = true then (1 : Int32) else 0) = b2i (a && b) := by decide
def frS (dy : Nat → Nat) (v : Nat) : Nat → Bool := allS (fun k => !decide (dy k = v))
theorem fr_yes {dy : Nat → Nat} {v : Nat} : ∀ n : Nat, (∀ k : Nat, k < n → dy k ≠ v) → frS dy v n = true
  | 0, _ => rfl
  | n + 1, h => by
    show (frS dy v n && !decide (dy n = v)) = true
    rw [fr_yes n (fun k hk => h k (by omega)), decide_eq_false (h n (by omega))]
    rfl
theorem fr_no {dy : Nat → Nat} {v n k : Nat} (hk : k < n) (h : dy k = v) : frS dy v n = false := all_no n k hk (by rw [decide_eq_true h]; rfl)
/-- what the reference reads -/
def Gd (τ : St) (n L : Nat) (dy : Nat → Nat) : Prop := n ≤ 10 ∧ L ≤ 364 ∧ τ 62 0 = nI n ∧ f_X9_least (τ 62 1) (364 : Int32) = nI L ∧ ∀ k : Nat, k < n → τ 62 (2 + 5 * k + 2) = nI (dy k) ∧ dy k < 365
theorem gap_45 {τ : St} {n L v : Nat} {dy : Nat → Nat} {x1 : Int32} (h : Gd τ n L dy) (hv : v < 1000) (rec22 : Int32 → Int32 → Int32 → Int32 → Option Int32) (a b c : Int32) : f_X9_gap_45 x1 τ rec22 fu a b c (nI v) 1 0 = f_X9_gap_101 x1 τ rec22 a b (nI v) (if frS dy v n = true then c + 1 else 0) := by
  obtain ⟨hn, hL, h0, h1, h2⟩ := h
  refine loop_q (fun f z k => f_X9_gap_45 x1 τ rec22 f a b c (nI v) z (nI k)) (fun k => b2i (frS dy v k)) n _ ?_ ?_ fu (fu_gt (by omega))
  · intro f k hk
    obtain ⟨e1, e2⟩ := h2 k hk
    show f_X9_gap_45 x1 τ rec22 (f + 1) a b c (nI v) (b2i (frS dy v k)) (nI k) = f_X9_gap_45 x1 τ rec22 f a b c (nI v) (b2i (frS dy v k && !decide (dy k = v))) (nI (k + 1))
    rw [f_X9_gap_45_s, h0, if_neg (nI_ge hk (by omega)), if_pos (ofi2 (k := k) (by omega)), ofc2 (k := k) (by omega), e1, ← b2_and]
    by_cases hc : dy k = v
    · rw [hc, if_pos rfl, f_X9_gap_79_e, nI_1, decide_eq_true rfl]
      rfl
    · rw [if_neg (fun q => hc ((nI_eq (by omega) (by omega)).mp q)), f_X9_gap_79_e, nI_1, decide_eq_false hc]
      rfl
  · intro f
    show f_X9_gap_45 x1 τ rec22 (f + 1) a b c (nI v) (b2i (frS dy v n)) (nI n) = _
    rw [f_X9_gap_45_s, h0, if_pos (nI_le (Nat.le_refl n) (by omega))]
    cases frS dy v n
    · rw [if_pos (show b2i false = 0 from rfl), if_neg (by decide)]
    · rw [if_neg (show ¬ b2i true = 0 by decide), if_pos rfl]
theorem gap_free {τ : St} {n L a j b f : Nat} {r : Int32} {dy : Nat → Nat} {x1 : Int32} (h : Gd τ n L dy) (ha : a + j ≤ L) (hb : b < 1000) (hf : frS dy (a + j) n = true) : f_X9_gap_22 x1 τ (f + 1) (nI (if b < j then j else b)) (if b < j then nI a else r) (nI j) (nI (a + j)) = f_X9_gap_22 x1 τ f (nI (if b < j + 1 then j + 1 else b)) (if b < j + 1 then nI a else r) (nI (j + 1)) (nI (a + (j + 1))) := by
  have hL := h.2.1
  rw [f_X9_gap_22_s, h.2.2.2.1, if_neg (nI_nlt (by omega) (by omega)), gap_45 h (by omega), hf, if_pos rfl, f_X9_gap_101, nI_1]
  have e : nI (a + j) - nI (j + 1) + 1 = nI a := by
    by_cases h0 : a = 0
    · subst h0
      rw [Nat.zero_add, m1_sub (by omega)]
      rfl
    · rw [pk_sub (show j + 1 ≤ a + j by omega), nI_1]
      congr 1
      omega
  by_cases hc : b < j + 1
  · rw [if_pos (show nI (if b < j then j else b) < nI (j + 1) from nI_lt (by split <;> omega) (by omega)), f_X9_gap_123, nI_1, e, if_pos hc, if_pos hc]
    rfl
  · rw [if_neg (show ¬ nI (if b < j then j else b) < nI (j + 1) from nI_nlt (by rw [if_neg (show ¬ b < j by omega)]; omega) (by split <;> omega)), f_X9_gap_123, nI_1, if_neg (show ¬ b < j by omega), if_neg (show ¬ b < j by omega), if_neg hc, if_neg hc]
    rfl
theorem gap_run {τ : St} {n L a g b : Nat} {r : Int32} {dy : Nat → Nat} {x1 : Int32} (h : Gd τ n L dy) (hb : b < 1000) (ha : a + g ≤ L + 1) (hf : ∀ v : Nat, a ≤ v → v < a + g → frS dy v n = true) : ∀ (j f : Nat), j ≤ g → f_X9_gap_22 x1 τ (f + j) (nI b) r 0 (nI a) = f_X9_gap_22 x1 τ f (nI (if b < j then j else b)) (if b < j then nI a else r) (nI j) (nI (a + j))
  | 0, f, _ => by
    rw [if_neg (Nat.not_lt_zero b), if_neg (Nat.not_lt_zero b)]
    rfl
  | j + 1, f, hj => by
    have e : f + (j + 1) = (f + 1) + j := by omega
    rw [e, gap_run h hb ha hf j (f + 1) (by omega), gap_free h (by omega) hb (hf (a + j) (by omega) (by omega))]
theorem gap_occ {τ : St} {n L v b f : Nat} {r c : Int32} {dy : Nat → Nat} {x1 : Int32} (h : Gd τ n L dy) (hv : v ≤ L) (hb : b < 1000) (hf : frS dy v n = false) : f_X9_gap_22 x1 τ (f + 1) (nI b) r c (nI v) = f_X9_gap_22 x1 τ f (nI b) r 0 (nI (v + 1)) := by
  have hL := h.2.1
  rw [f_X9_gap_22_s, h.2.2.2.1, if_neg (nI_nlt hv (by omega)), gap_45 h (by omega), hf, if_neg (by decide), f_X9_gap_101, if_neg (show ¬ nI b < 0 from nI_n0 (by omega)), f_X9_gap_123, nI_1]
theorem gap_r {τ : St} {n L m : Nat} {dy D : Nat → Nat} {x1 : Int32} (h : Gd τ n L dy) (hD : ∀ i : Nat, D i ≤ 365) (hmo : ∀ i : Nat, D i ≤ D (i + 1)) (hDm : D m = L + 1) (hlt : ∀ i : Nat, i < m → D i ≤ L) (hfree : ∀ i : Nat, i ≤ m → ∀ v : Nat, (gpS D i).2.2 ≤ v → v < D i → frS dy v n = true) (hocc : ∀ i : Nat, i < m → frS dy (D i) n = false) : ∀ (e i f : Nat), i + e = m → L + 1 - (gpS D i).2.2 < f → f_X9_gap_22 x1 τ f (nI (gpS D i).1) (gpS D i).2.1 0 (nI (gpS D i).2.2) = some (if x1 = 0 then nI (gpS D (m + 1)).1 else (gpS D (m + 1)).2.1) := by
  have hL := h.2.1
  intro e
  induction e with
  | zero =>
    intro i f hi hf
    obtain rfl : i = m := by omega
    have l1 := gp_b hD i
    have l2 := gp_f hmo i
    by_cases hc : (gpS D i).2.2 ≤ D i
    · obtain ⟨f, rfl⟩ : ∃ g, f = (g + 1) + (D i - (gpS D i).2.2) := ⟨f - 1 - (D i - (gpS D i).2.2), by omega⟩
      rw [gap_run (g := D i - (gpS D i).2.2) h (by omega) (by omega) (fun v a b => hfree i (by omega) v a (by omega)) _ _ (Nat.le_refl _), f_X9_gap_22_s, h.2.2.2.1, if_pos (nI_lt (by omega) (by omega)), gp_s]
      by_cases hx : x1 = 0
      · rw [if_pos hx, if_pos hx]
      · rw [if_neg hx, if_neg hx]
    · obtain ⟨f, rfl⟩ : ∃ g, f = g + 1 := ⟨f - 1, by omega⟩
      rw [f_X9_gap_22_s, h.2.2.2.1, if_pos (nI_lt (by omega) (by omega)), gp_s]
      have e0 : ¬ (gpS D i).1 < D i - (gpS D i).2.2 := by omega
      by_cases hx : x1 = 0
      · rw [if_pos hx, if_pos hx, if_neg e0]
      · rw [if_neg hx, if_neg hx, if_neg e0, if_neg e0]
  | succ e ih =>
    intro i f hi hf
    have l1 := gp_b hD i
    have l2 := gp_f hmo i
    have l3 := hlt i (by omega)
    by_cases hc : (gpS D i).2.2 ≤ D i
    · obtain ⟨f, rfl⟩ : ∃ g, f = (g + 1) + (D i - (gpS D i).2.2) := ⟨f - 1 - (D i - (gpS D i).2.2), by omega⟩
      have e2 : (gpS D i).2.2 + (D i - (gpS D i).2.2) = D i := by omega
      have e1 : (if (gpS D i).1 < D i - (gpS D i).2.2 then D i - (gpS D i).2.2 else (gpS D i).1) < 1000 := by split <;> omega
      rw [gap_run (g := D i - (gpS D i).2.2) h (by omega) (by omega) (fun v a b => hfree i (by omega) v a (by omega)) _ _ (Nat.le_refl _), e2, gap_occ h l3 e1 (hocc i (by omega))]
      have h9 := ih (i + 1) f (by omega) (by rw [gp_s]; show L + 1 - (D i + 1) < f; omega)
      rw [gp_s] at h9
      exact h9
    · have e0 : ¬ (gpS D i).1 < D i - (gpS D i).2.2 := by omega
      have e2 : (gpS D i).2.2 = D i + 1 := by omega
      have h9 := ih (i + 1) f (by omega) (by rw [gp_s]; show L + 1 - (D i + 1) < f; omega)
      rw [gp_s] at h9
      simp only [if_neg e0] at h9
      rw [e2]
      exact h9
theorem last_min {σ : St} {t : Nat} (ht : σ 21 3 = nI t) (h2 : t ≤ 365) (he : σ 62 1 = σ 21 3) : ∃ L : Nat, L ≤ 364 ∧ L ≤ t ∧ (∀ d : Nat, d ≤ t → d < 365 → d ≤ L) ∧ f_X7_lastDay 21 σ = nI L ∧ f_X9_least (σ 62 1) (364 : Int32) = nI L := by
  unfold f_X7_lastDay f_X9_least
  rw [he, ht]
  by_cases hc : t ≤ 364
  · refine ⟨t, hc, Nat.le_refl t, fun d hd _ => hd, if_neg (gt364 hc), ?_⟩
    by_cases h3 : t = 364
    · subst h3; rw [if_pos le364]; rfl
    · rw [if_neg (ge364 (by omega))]
  · exact ⟨364, by omega, by omega, fun d _ hd => by omega, if_pos (show nI 364 < nI t from nI_lt (by omega) (by omega)), if_pos (show nI 364 ≤ nI t from nI_le (by omega) (by omega))⟩
theorem p_gap {σ : St} (h : Inv σ) (x : Int32) : ∃ r σ1, f_X8_gap x σ = some (r, σ1) ∧ f_X9_gap x σ1 = some r ∧ Inv σ1 := by
  obtain ⟨n, hy⟩ := h.1
  have hn := hy.1
  unfold f_X8_gap
  by_cases hx : isN x 2
  · rw [yes_if below2 hx]
    obtain ⟨ρ, c1, c2, c3, c4, -⟩ := print_c hy
    have hI : Inv ρ := by
      have s1 : Same σ ρ := ⟨fun i hi => c2 i (by omega) (by omega) (by omega), by rw [c2 0 (by decide) (by decide) (by decide)], by rw [c2 61 (by decide) (by decide) (by decide)]⟩
      exact s1.inv h
    obtain ⟨t, ht, et⟩ := hy.2.2.2.1
    obtain ⟨L, hL, hLt, hLd, el1, el2⟩ := last_min et ht hy.2.2.2.2.1
    generalize hm : (srtS σ (σ 19) n).2 = m at c4
    generalize ho : (srtS σ (σ 19) n).1 = o at c3
    have hle : m ≤ n := by rw [← hm]; exact srt_le n
    have hin : ∀ j : Nat, j < m → ∃ q : Nat, q < n ∧ o j = nI q ∧ toldS σ 21 q = true := by
      rw [← hm, ← ho]; exact srt_in n
    have hmon : ∀ i j : Nat, i < j → j < m → doS σ o i ≤ doS σ o j := by
      rw [← hm, ← ho]; exact srt_mon hy n (Nat.le_refl n)
    have hall : ∀ q : Nat, q < n → toldS σ 21 q = true → ∃ j : Nat, j < m ∧ o j = nI q := by
      rw [← hm, ← ho]; exact srt_all n
    have told_d : ∀ q : Nat, q < n → (toldS σ 21 q = true ↔ dyS σ q ≤ t) := by
      intro q hq
      obtain ⟨e1, e2⟩ := dy_eq hy hq
      have e1' : σ (21 + 1 + 2 + q) 2 = nI (dyS σ q) := e1
      unfold toldS
      rw [et, e1']
      by_cases hc : dyS σ q ≤ t
      · rw [decide_eq_false (nI_nlt hc (by omega))]
        exact ⟨fun _ => hc, fun _ => rfl⟩
      · rw [decide_eq_true (nI_lt (by omega) (by omega))]
        exact ⟨fun z => absurd z (by decide), fun z => absurd z hc⟩
    have hd0 : ∀ j : Nat, j < m → doS σ o j ≤ L := by
      intro j hj
      obtain ⟨q, hq, eq, hq2⟩ := hin j hj
      rw [do_eq (σ := σ) (by omega) eq]
      exact hLd _ ((told_d q hq).mp hq2) (dy_eq hy hq).2
    generalize hDD : (fun j : Nat => if j < m then doS σ o j else L + 1) = D
    have D1 : ∀ j : Nat, j < m → D j = doS σ o j := fun j hj => by rw [← hDD]; exact if_pos hj
    have D2 : ∀ j : Nat, m ≤ j → D j = L + 1 := fun j hj => by rw [← hDD]; exact if_neg (by omega)
    have hD : ∀ i : Nat, D i ≤ 365 := by
      intro i
      by_cases a : i < m
      · rw [D1 i a]; have := hd0 i a; omega
      · rw [D2 i (by omega)]; omega
    have hmo2 : ∀ i j : Nat, i ≤ j → D i ≤ D j := by
      intro i j hij
      by_cases a : j < m
      · rw [D1 i (by omega), D1 j a]
        by_cases b : i = j
        · rw [b]; exact Nat.le_refl _
        · exact hmon i j (by omega) a
      · rw [D2 j (by omega)]
        by_cases b : i < m
        · rw [D1 i b]; have := hd0 i b; omega
        · rw [D2 i (by omega)]; exact Nat.le_refl _
    have hmo : ∀ i : Nat, D i ≤ D (i + 1) := fun i => hmo2 i (i + 1) (by omega)
    have hday : ∀ j : Nat, j ≤ m → f_X0_dayAt (nI j) ρ = some (nI (D j)) := by
      intro j hj
      have h21 : ρ 21 2 = nI n := by rw [c2 21 (by decide) (by decide) (by decide)]; exact hy.2.1
      unfold f_X0_dayAt
      by_cases a : j < m
      · obtain ⟨q, hq, eq, -⟩ := hin j a
        rw [deedIn_eq (j := j) (q := q) (m := m) (n := n) (by omega) c4 a hn h21 (by omega) (by rw [c3, eq]), ob_s, oc_ss, c2 (24 + q) (by omega) (by omega) (by omega), (dy_eq hy hq).1, D1 j a, do_eq (σ := σ) (by omega) eq]
      · have el : f_X7_lastDay 21 ρ = nI L := by
          rw [← el1]
          unfold f_X7_lastDay
          rw [c2 21 (by decide) (by decide) (by decide)]
        obtain rfl : j = m := by omega
        rw [deedIn_end (by omega) c4, ob_s, oc_nn, el, nI_1, D2 j (by omega)]
    have hG : Gd ρ n L (dyS σ) := by
      have e62 : ρ 62 = σ 62 := c2 62 (by decide) (by decide) (by decide)
      refine ⟨hn, hL, by rw [e62]; exact hy.2.2.1, by rw [e62]; exact el2, fun k hk => ?_⟩
      rw [e62, (hy.d hk).2.2.2.1]
      exact dy_eq hy hk
    have hgr := gap_r (x1 := x) (m := m) hG hD hmo (D2 m (Nat.le_refl m)) (fun i hi => by rw [D1 i hi]; exact hd0 i hi) (fun i hi v a b => fr_yes n (fun k hk e => by
      by_cases hk2 : toldS σ 21 k = true
      · obtain ⟨j, hj, ej⟩ := hall k hk hk2
        have ev : D j = v := by rw [D1 j hj, do_eq (σ := σ) (by omega) ej, e]
        by_cases hji : j < i
        · obtain ⟨i, rfl⟩ : ∃ i', i = i' + 1 := ⟨i - 1, by omega⟩
          rw [gp_s] at a
          have a' : D i + 1 ≤ v := a
          have := hmo2 j i (by omega)
          omega
        · have := hmo2 i j (by omega)
          omega
      · have hb : v ≤ L := by
          by_cases c : i < m
          · rw [D1 i c] at b; have := hd0 i c; omega
          · rw [D2 i (by omega)] at b; omega
        exact hk2 ((told_d k hk).mpr (by omega)))) (fun i hi => by
      obtain ⟨q, hq, eq, -⟩ := hin i hi
      exact fr_no hq (by rw [D1 i hi, do_eq (σ := σ) (by omega) eq])) m 0 fu (by omega) (fu_gt (by omega))
    have hgr' : f_X9_gap_22 x ρ fu 0 (-4) 0 0 = some (if x = 0 then nI (gpS D (m + 1)).1 else (gpS D (m + 1)).2.1) := hgr
    have h9 : f_X9_gap x ρ = some (if x = 0 then nI (gpS D (m + 1)).1 else (gpS D (m + 1)).2.1) := by
      unfold f_X9_gap
      rw [yes_if isin1 hx, hgr']
    rw [c1, ob_s]
    by_cases h0 : x = 0
    · rw [if_pos h0] at h9
      rw [if_pos h0, longest_c (D := D) (m := m) (by omega) c4 hD hmo hday]
      exact ⟨_, ρ, rfl, h9, hI⟩
    · rw [if_neg h0] at h9
      rw [if_neg h0, first_c (D := D) (m := m) (by omega) c4 hD hmo hday]
      exact ⟨_, ρ, rfl, h9, hI⟩
  · rw [no_if below2 hx]
    refine ⟨_, σ, rfl, ?_, h⟩
    unfold f_X9_gap
    rw [no_if isin1 hx]
