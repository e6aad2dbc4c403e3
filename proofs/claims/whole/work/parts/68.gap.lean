/-! PURE: gap -/
def dyS (σ : St) (q : Nat) : Nat := (σ (24 + q) 2).toNatClampNeg
def doS (σ : St) (o : Nat → Int32) (j : Nat) : Nat := dyS σ (o j).toNatClampNeg
theorem dy_eq {σ : St} {n k : Nat} (hy : YR σ 21 62 n) (hk : k < n) : σ (24 + k) 2 = nI (dyS σ k) ∧ dyS σ k < 365 := by
  obtain ⟨a, b, d, w, s, ha, hb, hd, hw, hs, ht, e0, e1, e2, -⟩ := (hy.d hk).1
  unfold dyS
  rw [e2, nI_clamp (n := d) (by omega)]
  exact ⟨rfl, hd⟩
theorem do_eq {σ : St} {o : Nat → Int32} {j q : Nat} (hq : q < 1000) (h : o j = nI q) : doS σ o j = dyS σ q := by
  unfold doS
  rw [h, nI_clamp (n := q) (by omega)]
theorem ah_day {σ : St} {n q r : Nat} (hy : YR σ 21 62 n) (hq : q < n) (hr : r < n) : (ahS σ (nI q) (nI r) = true → dyS σ q ≤ dyS σ r) ∧ (¬ ahS σ (nI q) (nI r) = true → dyS σ r ≤ dyS σ q) := by
  have hn := hy.1
  obtain ⟨e1, l1⟩ := dy_eq hy hq
  obtain ⟨e2, l2⟩ := dy_eq hy hr
  unfold ahS f_X0_goesAhead f_X0_goesAhead_43
  simp only [oc_ss]
  rw [nI_clamp (n := q) (by omega), nI_clamp (n := r) (by omega), e1, e2]
  by_cases hc : dyS σ q < dyS σ r
  · rw [if_pos (nI_lt hc (by omega))]
    exact ⟨fun _ => by omega, fun z => absurd rfl z⟩
  · rw [if_neg (nI_nlt (by omega) (by omega))]
    refine ⟨fun z => ?_, fun _ => by omega⟩
    by_cases he : nI (dyS σ q) = nI (dyS σ r)
    · rw [nI_eq (by omega) (by omega)] at he
      omega
    · rw [if_neg he] at z
      exact absurd z (by decide)
theorem srt_mon {σ : St} {n : Nat} {o : Nat → Int32} (hy : YR σ 21 62 n) : ∀ k : Nat, k ≤ n → ∀ i j : Nat, i < j → j < (srtS σ o k).2 → doS σ (srtS σ o k).1 i ≤ doS σ (srtS σ o k).1 j
  | 0, _ => fun i j _ hj => absurd hj (Nat.not_lt_zero j)
  | k + 1, hk => by
    have hn := hy.1
    have ih := srt_mon (o := o) hy k (by omega)
    have hin := srt_in (σ := σ) (o := o) k
    by_cases ht : toldS σ 21 k = true
    · rw [srt_s, if_pos ht]
      obtain ⟨p, h1, h2, h3, h4, h5, h6⟩ := ins_shape (ah := ahS σ) (x := nI k) (srtS σ o k).2 (srtS σ o k).1
      have dk : ∀ i : Nat, insS (ahS σ) (nI k) (srtS σ o k).2 (srtS σ o k).1 p = nI k → doS σ (insS (ahS σ) (nI k) (srtS σ o k).2 (srtS σ o k).1) p = dyS σ k := fun _ e => do_eq (by omega) e
      have ep : doS σ (insS (ahS σ) (nI k) (srtS σ o k).2 (srtS σ o k).1) p = dyS σ k := do_eq (by omega) h3
      have elo : ∀ i : Nat, i < p → doS σ (insS (ahS σ) (nI k) (srtS σ o k).2 (srtS σ o k).1) i = doS σ (srtS σ o k).1 i := fun i hi => by unfold doS; rw [h2 i hi]
      have ehi : ∀ i : Nat, p < i → i ≤ (srtS σ o k).2 → doS σ (insS (ahS σ) (nI k) (srtS σ o k).2 (srtS σ o k).1) i = doS σ (srtS σ o k).1 (i - 1) := fun i hi hj => by unfold doS; rw [h4 i hi hj]
      have low : ∀ i : Nat, i < p → doS σ (srtS σ o k).1 i ≤ dyS σ k := by
        intro i hi
        rcases h5 with h5 | h5
        · omega
        · obtain ⟨q, q1, q2, -⟩ := hin (p - 1) (by omega)
          rw [q2] at h5
          have e := (ah_day hy (q := k) (r := q) (by omega) (by omega)).2 h5
          rw [← do_eq (σ := σ) (by omega) q2] at e
          by_cases hip : i = p - 1
          · rw [hip]; exact e
          · exact Nat.le_trans (ih i (p - 1) (by omega) (by omega)) e
      have high : ∀ i : Nat, p ≤ i → i < (srtS σ o k).2 → dyS σ k ≤ doS σ (srtS σ o k).1 i := by
        intro i hi hv
        obtain ⟨q, q1, q2, -⟩ := hin i hv
        have h := h6 i hi hv
        rw [q2] at h
        rw [do_eq (σ := σ) (by omega) q2]
        exact (ah_day hy (q := k) (r := q) (by omega) (by omega)).1 h
      intro i j hij hj
      show doS σ (insS (ahS σ) (nI k) (srtS σ o k).2 (srtS σ o k).1) i ≤ doS σ (insS (ahS σ) (nI k) (srtS σ o k).2 (srtS σ o k).1) j
      have hj' : j < (srtS σ o k).2 + 1 := hj
      by_cases a : i < p
      · rw [elo i a]
        by_cases b : j < p
        · rw [elo j b]; exact ih i j hij (by omega)
        · by_cases c : j = p
          · rw [c, ep]; exact low i a
          · rw [ehi j (by omega) (by omega)]
            exact Nat.le_trans (low i a) (high (j - 1) (by omega) (by omega))
      · by_cases c : i = p
        · rw [c, ep, ehi j (by omega) (by omega)]
          exact high (j - 1) (by omega) (by omega)
        · rw [ehi i (by omega) (by omega), ehi j (by omega) (by omega)]
          exact ih (i - 1) (j - 1) (by omega) (by omega)
    · rw [srt_s, if_neg ht]
      exact ih
theorem srt_all {σ : St} {o : Nat → Int32} : ∀ k q : Nat, q < k → toldS σ 21 q = true → ∃ j : Nat, j < (srtS σ o k).2 ∧ (srtS σ o k).1 j = nI q
  | 0, q, h, _ => absurd h (Nat.not_lt_zero q)
  | k + 1, q, h, hq => by
    have ih := srt_all (σ := σ) (o := o) k q
    by_cases ht : toldS σ 21 k = true
    · rw [srt_s, if_pos ht]
      obtain ⟨p, h1, h2, h3, h4, -⟩ := ins_shape (ah := ahS σ) (x := nI k) (srtS σ o k).2 (srtS σ o k).1
      by_cases e : q = k
      · subst e
        exact ⟨p, Nat.lt_succ_of_le h1, h3⟩
      · obtain ⟨j, hj, ej⟩ := ih (by omega) hq
        by_cases a : j < p
        · exact ⟨j, Nat.lt_succ_of_lt hj, (h2 j a).trans ej⟩
        · exact ⟨j + 1, Nat.succ_lt_succ hj, (h4 (j + 1) (by omega) (by omega)).trans ej⟩
    · rw [srt_s, if_neg ht]
      have : q ≠ k := fun e => ht (e ▸ hq)
      exact ih (by omega) hq
/-- the gaps in turn: the most, the first of the most, the day behind -/
def gpS (D : Nat → Nat) : Nat → Nat × Int32 × Nat := lf (fun i a => (if a.1 < D i - a.2.2 then D i - a.2.2 else a.1, if a.1 < D i - a.2.2 then nI a.2.2 else a.2.1, D i + 1)) (0, (-4 : Int32), 0)
theorem gp_0 {D : Nat → Nat} : gpS D 0 = (0, (-4 : Int32), 0) := rfl
theorem gp_s {D : Nat → Nat} {i : Nat} : gpS D (i + 1) = (if (gpS D i).1 < D i - (gpS D i).2.2 then D i - (gpS D i).2.2 else (gpS D i).1, if (gpS D i).1 < D i - (gpS D i).2.2 then nI (gpS D i).2.2 else (gpS D i).2.1, D i + 1) := rfl
theorem gp_step {D : Nat → Nat} (i : Nat) : (gpS D i).1 ≤ (gpS D (i + 1)).1 ∧ ((gpS D (i + 1)).1 = (gpS D i).1 → (gpS D (i + 1)).2.1 = (gpS D i).2.1) := by
  rw [gp_s]
  by_cases h : (gpS D i).1 < D i - (gpS D i).2.2
  · rw [if_pos h, if_pos h]
    exact ⟨Nat.le_of_lt h, fun q => absurd h (by
      have q' : D i - (gpS D i).2.2 = (gpS D i).1 := q
      omega)⟩
  · rw [if_neg h, if_neg h]
    exact ⟨Nat.le_refl _, fun _ => rfl⟩
theorem gp_mono {D : Nat → Nat} (i : Nat) : ∀ e : Nat, (gpS D i).1 ≤ (gpS D (i + e)).1 ∧ ((gpS D (i + e)).1 = (gpS D i).1 → (gpS D (i + e)).2.1 = (gpS D i).2.1)
  | 0 => ⟨Nat.le_refl _, fun _ => rfl⟩
  | e + 1 => by
    obtain ⟨h1, h2⟩ := gp_mono (D := D) i e
    obtain ⟨h3, h4⟩ := gp_step (D := D) (i + e)
    have e1 : i + (e + 1) = i + e + 1 := rfl
    rw [e1]
    exact ⟨by omega, fun q => by rw [h4 (by omega), h2 (by omega)]⟩
theorem gp_f {D : Nat → Nat} (hm : ∀ i : Nat, D i ≤ D (i + 1)) : ∀ i : Nat, (gpS D i).2.2 ≤ D i + 1
  | 0 => Nat.zero_le _
  | i + 1 => by
    rw [gp_s]
    exact Nat.succ_le_succ (hm i)
theorem gp_b {D : Nat → Nat} (hD : ∀ i : Nat, D i ≤ 365) : ∀ i : Nat, (gpS D i).1 ≤ 365
  | 0 => Nat.zero_le _
  | i + 1 => by
    have h1 := gp_b hD i
    have h2 := hD i
    rw [gp_s]
    show (if (gpS D i).1 < D i - (gpS D i).2.2 then D i - (gpS D i).2.2 else (gpS D i).1) ≤ 365
    split <;> omega
theorem m1_sub {a : Nat} (h : a < 1000) : nI a - nI (a + 1) = -1 := by
  refine Int32.toInt_inj.mp ?_
  rw [pk_sub_toInt (by omega) (by omega)]
  show (a : Int) - ((a + 1 : Nat) : Int) = -1
  omega
theorem gap_v {b d f : Nat} (hb : b < 1000) (hd : d < 1000) (hf : f ≤ d + 1) : (if nI b < nI d - nI f then nI d - nI f else nI b) = nI (if b < d - f then d - f else b) := by
  by_cases h : f ≤ d
  · rw [pk_sub h]
    by_cases c : b < d - f
    · rw [if_pos (nI_lt c (by omega)), if_pos c]
    · rw [if_neg (nI_nlt (by omega) (by omega)), if_neg c]
  · obtain rfl : f = d + 1 := by omega
    have n1 : ¬ nI b < (-1 : Int32) := fun q => by
      rw [i32_lt, nI_toInt (by omega)] at q
      have e1 : (-1 : Int32).toInt = -1 := rfl
      rw [e1] at q
      omega
    rw [m1_sub hd, if_neg n1, if_neg (show ¬ b < d - (d + 1) by omega)]
theorem gap_e {B d f : Nat} (h0 : 0 < B) (hB : B < 1000) (hd : d < 1000) (hf : f ≤ d + 1) : nI d - nI f = nI B ↔ d - f = B := by
  by_cases h : f ≤ d
  · rw [pk_sub h, nI_eq (by omega) (by omega)]
  · obtain rfl : f = d + 1 := by omega
    rw [m1_sub hd]
    refine ⟨fun q => ?_, fun q => by omega⟩
    have e := congrArg Int32.toInt q
    rw [nI_toInt (by omega)] at e
    have e1 : (-1 : Int32).toInt = -1 := rfl
    rw [e1] at e
    omega
theorem longest_c {ρ : St} {m : Nat} {D : Nat → Nat} (hm : m ≤ 10) (h3 : ρ 18 3 = nI m) (hD : ∀ i : Nat, D i ≤ 365) (hmo : ∀ i : Nat, D i ≤ D (i + 1)) (hday : ∀ j : Nat, j ≤ m → f_X0_dayAt (nI j) ρ = some (nI (D j))) : f_X0_longestGap ρ = some (nI (gpS D (m + 1)).1) := by
  refine loop_q (fun f (a : Nat × Int32 × Nat) k => f_X0_longestGap_6 ρ f (nI a.1) (nI a.2.2) (nI k)) (gpS D) (m + 1) _ ?_ ?_ fu (fu_gt (by omega))
  · intro f k hk
    have l1 := gp_b hD k
    have l2 := gp_f hmo k
    have l3 := hD k
    show f_X0_longestGap_6 ρ (f + 1) (nI (gpS D k).1) (nI (gpS D k).2.2) (nI k) = f_X0_longestGap_6 ρ f (nI (gpS D (k + 1)).1) (nI (gpS D (k + 1)).2.2) (nI (k + 1))
    rw [f_X0_longestGap_6_s, h3, if_neg (nI_nlt (a := m) (b := k) (by omega) (by omega)), hday k (by omega), ob_s, ob_s, nI_1, nI_1, gap_v (by omega) (by omega) l2, gp_s]
  · intro f
    show f_X0_longestGap_6 ρ (f + 1) _ _ (nI (m + 1)) = _
    rw [f_X0_longestGap_6_s, h3, if_pos (nI_lt (Nat.lt_succ_self m) (by omega))]
theorem first_c {ρ : St} {m : Nat} {D : Nat → Nat} (hm : m ≤ 10) (h3 : ρ 18 3 = nI m) (hD : ∀ i : Nat, D i ≤ 365) (hmo : ∀ i : Nat, D i ≤ D (i + 1)) (hday : ∀ j : Nat, j ≤ m → f_X0_dayAt (nI j) ρ = some (nI (D j))) : f_X0_firstOfLongestGap ρ = some (gpS D (m + 1)).2.1 := by
  unfold f_X0_firstOfLongestGap
  rw [longest_c hm h3 hD hmo hday, ob_s]
  have lB := gp_b hD (m + 1)
  have key : ∀ (e f i : Nat), i + e = m + 1 → e < f → (gpS D i).1 < (gpS D (m + 1)).1 → f_X0_firstOfLongestGap_9 ρ f (nI (gpS D (m + 1)).1) (nI (gpS D i).2.2) (nI i) = some (gpS D (m + 1)).2.1 := by
    intro e
    induction e with
    | zero =>
      intro f i hi hf hb
      obtain rfl : i = m + 1 := by omega
      omega
    | succ e ih =>
      intro f i hi hf hb
      obtain ⟨f, rfl⟩ : ∃ g, f = g + 1 := ⟨f - 1, by omega⟩
      have l1 := gp_b hD i
      have l2 := gp_f hmo i
      have l3 := hD i
      obtain ⟨m1, m2⟩ := gp_mono (D := D) (i + 1) e
      rw [show i + 1 + e = m + 1 by omega] at m1 m2
      rw [f_X0_firstOfLongestGap_9_s, h3, if_neg (nI_nlt (a := m) (b := i) (by omega) (by omega)), if_neg (nI_nle (by omega) (by omega)), hday i (by omega), ob_s, ob_s, nI_1, nI_1]
      by_cases hg : D i - (gpS D i).2.2 = (gpS D (m + 1)).1
      · rw [if_pos ((gap_e (by omega) (by omega) (by omega) l2).mpr hg)]
        have hlt : (gpS D i).1 < D i - (gpS D i).2.2 := by omega
        have e1 : (gpS D (i + 1)).1 = D i - (gpS D i).2.2 := by rw [gp_s]; exact if_pos hlt
        have e2 : (gpS D (i + 1)).2.1 = nI (gpS D i).2.2 := by rw [gp_s]; exact if_pos hlt
        rw [m2 (by omega), e2]
      · rw [if_neg (fun q => hg ((gap_e (by omega) (by omega) (by omega) l2).mp q))]
        have e1 : (gpS D (i + 1)).1 = if (gpS D i).1 < D i - (gpS D i).2.2 then D i - (gpS D i).2.2 else (gpS D i).1 := by rw [gp_s]
        have hne : (gpS D (i + 1)).1 ≠ (gpS D (m + 1)).1 := by
          rw [e1]
          split <;> omega
        have h9 := ih f (i + 1) (by omega) (by omega) (by omega)
        exact h9
  by_cases h0 : (gpS D (m + 1)).1 = 0
  · rw [h0, show fu = 3999 + 1 from rfl, f_X0_firstOfLongestGap_9_s, h3, if_neg (show ¬ nI m < 0 from nI_n0 (by omega)), if_pos (show nI 0 ≤ 0 by decide)]
    have e := (gp_mono (D := D) 0 (m + 1)).2 (by rw [Nat.zero_add, h0]; rfl)
    rw [Nat.zero_add] at e
    rw [e]
    rfl
  · exact key (m + 1) fu 0 (by omega) (fu_gt (by omega)) (by show 0 < _; omega)
