/-! PURE: forgets, mayBe, witnesses -/
theorem lt365 {k : Nat} (h : 365 < k) (h2 : k < 2 ^ 31) : (365 : Int32) < nI k := nI_lt (a := 365) h h2
theorem DOk.lrN {σ : St} {i : Nat} (h : DOk σ i) (p : Int32) : ∃ L : Nat, L < 400 ∧ f_X1_lastingFor i p σ = nI L := by
  obtain ⟨u, v, hu, hv, e5, e6⟩ := h.lr
  unfold f_X1_lastingFor
  by_cases hp : p = σ i 3
  · rw [if_pos hp]; exact ⟨v, hv, e6⟩
  · rw [if_neg hp]; exact ⟨u, hu, e5⟩
theorem kept_day {σ : St} {i d L : Nat} {p : Int32} (hd : d < 400) (hL : L < 400) (ed : σ i 2 = nI d) (eL : f_X1_lastingFor i p σ = nI L) (hkn : f_X1_isKnown i p σ = true) (v : Nat) (hdv : d ≤ v) (hv : v < 1000) : f_X1_isKept i p (nI v) σ = true ↔ v < d + L + 1 := by
  rw [kept_c]
  rw [known_c] at hkn
  unfold keptS
  rw [ed, if_neg (nI_nlt hdv (by omega)), hkn, if_pos rfl]
  have e : (if p = σ i 3 then σ i 6 else σ i 5) = nI L := eL
  rw [e, pk_sub hdv]
  by_cases hc : v - d ≤ L
  · rw [if_neg (nI_nlt hc (by omega))]
    exact ⟨fun _ => by omega, fun _ => rfl⟩
  · rw [if_pos (nI_lt (by omega) (by omega))]
    exact ⟨fun q => absurd q (by decide), fun _ => by omega⟩
theorem kept_known {σ : St} {i : Nat} {p t : Int32} (h : f_X1_isKept i p t σ = true) : f_X1_isKnown i p σ = true ∧ ¬ t < σ i 2 := by
  rw [kept_c] at h
  rw [known_c]
  unfold keptS at h
  by_cases h1 : t < σ i 2
  · rw [if_pos h1] at h; exact absurd h (by decide)
  · rw [if_neg h1] at h
    by_cases h2 : knownS (σ i 3) (σ i 4) p = true
    · exact ⟨h2, h1⟩
    · rw [if_neg h2] at h; exact absurd h (by decide)
theorem kept_congr {σ τ : St} {i : Nat} {p t : Int32} (h : τ i = σ i) : f_X1_isKept i p t τ = f_X1_isKept i p t σ := by rw [kept_c, kept_c, h]
/-- during a loop over the row 63 -/
def Cp (σ τ : St) (k : Nat) : Prop := (∀ i : Nat, i ≠ 63 → τ i = σ i) ∧ DRel τ (24 + k) 63 k
theorem Cp.up {σ τ : St} {k : Nat} (h : Cp σ τ k) (hk : k < 10) (v : Int32) : Cp σ (up τ 63 1 v) k := by
  obtain ⟨h1, h2⟩ := h
  refine ⟨fun i hi => by rw [up_n hi, h1 i hi], ?_⟩
  have f0 : ∀ j : Nat, upd (τ 63) 1 v (2 + 5 * k + j) = τ 63 (2 + 5 * k + j) := fun j => pk_un (by omega)
  unfold DRel at h2 ⊢
  rw [up_s, up_n (show (24 + k) ≠ 63 by omega), f0, f0, f0, f0, f0]
  exact h2
theorem cp63 {σ : St} {n k : Nat} (hk : k < n) (hy : YR σ 21 62 n) : Cp σ (cp52 σ 62 63 52) k := by
  have hn := hy.1
  refine ⟨fun i hi => cp52_n hi, ?_⟩
  have q := (hy.d hk).2
  unfold DRel at q ⊢
  rw [cp52_n (show 24 + k ≠ 63 by omega), cp52_j]
  have f0 : ∀ j : Nat, j < 5 → (fun b => if b < 52 then σ 62 b else σ 63 b) (2 + 5 * k + j) = σ 62 (2 + 5 * k + j) := fun j hj => if_pos (by omega)
  rw [f0 0 (by decide), f0 1 (by decide), f0 2 (by decide), f0 3 (by decide), f0 4 (by decide)]
  exact q
theorem same63 {σ ρ : St} (h : ∀ i : Nat, i ≠ 63 → ρ i = σ i) : Same σ ρ := ⟨fun i hi => h i (by omega), by rw [h 0 (by decide)], by rw [h 61 (by decide)]⟩
theorem forgets_r {σ : St} {n k d L : Nat} {p : Int32} (hy : YR σ 21 62 n) (hk : k < n) (hd : d < 400) (hL : L < 400) (ed : σ (24 + k) 2 = nI d) (eL : f_X1_lastingFor (24 + k) p σ = nI L) (hkn : f_X1_isKnown (24 + k) p σ = true) : ∀ (m f j : Nat) (τ : St), d ≤ j → (j + m = d + L + 1 ∧ j + m ≤ 366 ∨ j + m = 366 ∧ 366 ≤ d + L + 1) → m < f → Cp σ τ k → ∃ ρ, f_X9_forgets_50 p (nI k) f (nI j) τ = some (if (365 : Int32) < nI (d + L + 1) then -4 else nI (d + L + 1), ρ) ∧ ∀ i : Nat, i ≠ 63 → ρ i = σ i := by
  have hn := hy.1
  intro m
  induction m with
  | zero =>
    intro f j τ hdj hj hf h
    obtain ⟨f, rfl⟩ : ∃ g, f = g + 1 := ⟨f - 1, by omega⟩
    rw [f_X9_forgets_50_s]
    by_cases hc : j = 366
    · subst hc
      rw [if_pos (lt365 (k := 366) (by decide) (by decide)), if_pos (lt365 (by omega) (by omega))]
      exact ⟨_, rfl, h.1⟩
    · have hj2 : j = d + L + 1 := by omega
      have hC := h.up (by omega) (nI j)
      rw [if_neg (gt365 (by omega)), hasIt_rel (by omega) ((hy.d hk).1.congr (hC.1 _ (by omega))) hC.2, up_s, pk_us, kept_congr (hC.1 _ (by omega)), ob_s, if_neg (fun q => absurd ((kept_day hd hL ed eL hkn j hdj (by omega)).mp q) (by omega)), if_neg (by rw [← hj2]; exact gt365 (by omega)), hj2]
      exact ⟨_, rfl, (hj2 ▸ hC).1⟩
  | succ m ih =>
    intro f j τ hdj hj hf h
    obtain ⟨f, rfl⟩ : ∃ g, f = g + 1 := ⟨f - 1, by omega⟩
    have hC := h.up (by omega) (nI j)
    rw [f_X9_forgets_50_s, if_neg (gt365 (by omega)), hasIt_rel (by omega) ((hy.d hk).1.congr (hC.1 _ (by omega))) hC.2, up_s, pk_us, kept_congr (hC.1 _ (by omega)), ob_s, if_pos ((kept_day hd hL ed eL hkn j hdj (by omega)).mpr (by omega)), nI_1]
    exact ih f (j + 1) _ (by omega) (by omega) (by omega) hC
theorem p_forgets {σ : St} (h : Inv σ) (p x : Int32) : ∃ r σ2, f_X8_forgets p x σ = some r ∧ f_X9_forgets p x σ = some (r, σ2) ∧ Inv σ2 := by
  obtain ⟨n, hy⟩ := h.1
  have hn := hy.1
  unfold f_X8_forgets f_X9_forgets
  rcases deed_two hy x with ⟨k, hk, rfl, e1, e2⟩ | ⟨hx, e1, e2⟩
  · rw [e1, e2]
    show ∃ r σ2, (if f_X8_isBelow p 5 = true then _ else _) = some r ∧ _
    by_cases hp : isN p 5
    · rw [yes_if below5 hp, yes_if person_iff hp, ob_s, if_pos rfl, hasIt_now hy hk, ob_s]
      by_cases hc : f_X1_isKept (24 + k) p (σ 21 3) σ = true
      · rw [if_pos hc, if_pos hc, copies_eq (by decide), ob_s]
        obtain ⟨L, hL, eL⟩ := (hy.d hk).1.lrN p
        obtain ⟨a, b, d, w, s, ha, hb, hd, hw, hs, ht, e0, e1, ed, -⟩ := (hy.d hk).1
        obtain ⟨t, ht, et⟩ := hy.2.2.2.1
        obtain ⟨hkn, hdt⟩ := kept_known hc
        rw [et, ed] at hdt
        have hdt' : d ≤ t := Nat.le_of_not_lt (fun q => hdt (nI_lt q (by omega)))
        have htl : t < d + L + 1 := (kept_day (by omega) hL ed eL hkn t hdt' (by omega)).mp (et ▸ hc)
        have e63 : cp52 σ 62 63 52 62 1 = nI t := by rw [cp52_n (by decide), hy.2.2.2.2.1, et]
        rw [e63, ed, eL, nI_add, nI_1]
        obtain ⟨ρ, r1, r2⟩ : ∃ ρ, f_X9_forgets_50 p (nI k) fu (nI t) (cp52 σ 62 63 52) = some (if (365 : Int32) < nI (d + L + 1) then -4 else nI (d + L + 1), ρ) ∧ ∀ i : Nat, i ≠ 63 → ρ i = σ i := by
          by_cases hq : d + L + 1 ≤ 366
          · exact forgets_r hy hk (by omega) hL ed eL hkn (d + L + 1 - t) fu t _ hdt' (by omega) (fu_gt (by omega)) (cp63 hk hy)
          · exact forgets_r hy hk (by omega) hL ed eL hkn (366 - t) fu t _ hdt' (by omega) (fu_gt (by omega)) (cp63 hk hy)
        refine ⟨_, ρ, ?_, r1, (same63 r2).inv h⟩
        by_cases hq : (365 : Int32) < nI (d + L + 1)
        · rw [if_pos hq, if_pos hq]
        · rw [if_neg hq, if_neg hq]
      · rw [if_neg hc, if_neg hc]
        exact ⟨_, _, rfl, rfl, h⟩
    · rw [no_if below5 hp, no_if person_iff hp]
      exact ⟨_, _, rfl, rfl, h⟩
  · rw [e1, e2]
    refine ⟨-1, σ, rfl, ?_, h⟩
    by_cases hp : isN p 5
    · rw [yes_if person_iff hp]; rfl
    · rw [no_if person_iff hp]
/-- mayBe: how many, and the least -/
def cntS (P : Nat → Bool) : Nat → Nat
  | 0 => 0
  | n + 1 => if P n = true then cntS P n + 1 else cntS P n
def fstS (P : Nat → Bool) : Nat → Int32 → Int32
  | 0, l => l
  | n + 1, l => fstS P n (if P n = true then nI n else l)
theorem cnt_le {P : Nat → Bool} : ∀ n : Nat, cntS P n ≤ n
  | 0 => Nat.le_refl 0
  | n + 1 => by
    have := cnt_le (P := P) n
    unfold cntS
    split <;> omega
theorem fst_none {P : Nat → Bool} : ∀ n : Nat, cntS P n = 0 → ∀ l, fstS P n l = l
  | 0, _, _ => rfl
  | n + 1, h, l => by
    unfold cntS at h
    by_cases hp : P n = true
    · rw [if_pos hp] at h; omega
    · rw [if_neg hp] at h
      show fstS P n (if P n = true then nI n else l) = l
      rw [if_neg hp]
      exact fst_none n h l
theorem fst_some {P : Nat → Bool} : ∀ n : Nat, ¬ cntS P n = 0 → ∀ l m, fstS P n l = fstS P n m
  | 0, h, _, _ => absurd rfl h
  | n + 1, h, l, m => by
    show fstS P n (if P n = true then nI n else l) = fstS P n (if P n = true then nI n else m)
    by_cases hp : P n = true
    · rw [if_pos hp, if_pos hp]
    · rw [if_neg hp, if_neg hp]
      unfold cntS at h
      rw [if_neg hp] at h
      exact fst_some n h l m
theorem cnt_t {P : Nat → Bool} {n : Nat} (h : P n = true) : cntS P (n + 1) = cntS P n + 1 := if_pos h
theorem cnt_f {P : Nat → Bool} {n : Nat} (h : ¬ P n = true) : cntS P (n + 1) = cntS P n := if_neg h
theorem fst_f {P : Nat → Bool} {n : Nat} {l : Int32} (h : ¬ P n = true) : fstS P (n + 1) l = fstS P n l := by
  show fstS P n (if P n = true then nI n else l) = _
  rw [if_neg h]
theorem fst_t {P : Nat → Bool} {n : Nat} {l : Int32} (h : P n = true) : fstS P (n + 1) l = if cntS P n = 0 then nI n else fstS P n l := by
  show fstS P n (if P n = true then nI n else l) = _
  rw [if_pos h]
  by_cases hc : cntS P n = 0
  · rw [if_pos hc, fst_none n hc]
  · rw [if_neg hc, fst_some n hc]
def mbS (σ : St) (k : Nat) (v : Nat) : Bool := decide (f_X1_keepersAfter (24 + k) (σ 21 3 - nI v) σ = f_X1_keepers (24 + k) (σ 21 3) σ)
theorem mayBe_c {σ : St} {k : Nat} {x1 x2 : Int32} : ∀ (m f : Nat) (c : Nat) (l : Int32), m < f → m ≤ 400 → f_X8_mayBe_52 x1 x2 σ f (24 + k) (f_X1_keepers (24 + k) (σ 21 3) σ) (nI c) l (nI m + (-1 : Int32)) = some (if x2 = 0 then nI (cntS (mbS σ k) m + c) else fstS (mbS σ k) m l) := by
  intro m
  induction m with
  | zero =>
    intro f c l hf hm
    obtain ⟨f, rfl⟩ : ∃ g, f = g + 1 := ⟨f - 1, by omega⟩
    rw [f_X8_mayBe_52_s, if_pos (by decide)]
    show (if x2 = 0 then _ else _) = some (if x2 = 0 then nI (0 + c) else l)
    by_cases hx : x2 = 0
    · rw [if_pos hx, if_pos hx, Nat.zero_add]
    · rw [if_neg hx, if_neg hx]
  | succ m ih =>
    intro f c l hf hm
    obtain ⟨f, rfl⟩ : ∃ g, f = g + 1 := ⟨f - 1, by omega⟩
    rw [f_X8_mayBe_52_s, pk_m1, if_neg (nI_n0 (by omega))]
    by_cases hc : f_X1_keepersAfter (24 + k) (σ 21 3 - nI m) σ = f_X1_keepers (24 + k) (σ 21 3) σ
    · have hP : mbS σ k m = true := decide_eq_true hc
      rw [if_pos hc, f_X8_mayBe_83_e, nI_1, ih f (c + 1) (nI m) (by omega) (by omega), cnt_t hP]
      show _ = some (if x2 = 0 then _ else fstS (mbS σ k) m (if mbS σ k m = true then nI m else l))
      rw [if_pos hP, show cntS (mbS σ k) m + 1 + c = cntS (mbS σ k) m + (c + 1) by omega]
    · have hP : ¬ mbS σ k m = true := by unfold mbS; simp [hc]
      rw [if_neg hc, f_X8_mayBe_83_e, ih f c l (by omega) (by omega), cnt_f hP, fst_f hP]
theorem who_day {σ τ : St} {n k v t : Nat} (hy : YR σ 21 62 n) (hk : k < n) (ht : σ 21 3 = nI t) (hv : v ≤ t) (h1 : ∀ i : Nat, i ≠ 63 → τ i = σ i) (ht2 : t < 1000) (g0 : τ 63 (2 + 5 * k + 0) = σ (24 + k) 0) (g1 : τ 63 (2 + 5 * k + 1) = σ (24 + k) 1) (g2 : τ 63 (2 + 5 * k + 2) = nI v) (g3 : τ 63 (2 + 5 * k + 3) = σ (24 + k) 3) (g4 : τ 63 (2 + 5 * k + 4) = σ (24 + k) 4) (g5 : τ 63 1 = σ 21 3) : f_X9_whoHas 63 (nI k) τ = some (f_X1_keepersAfter (24 + k) (σ 21 3 - nI v) σ) := by
  have hn := hy.1
  have hd := (hy.d hk).1
  rw [whoHas_r (by omega), g0, g1, g2, g3, g4, g5, hd.last.1, hd.last.2, whoS_eq, hd.keep, if_neg (by rw [ht]; exact nI_nlt hv (by omega)), keepers_c]
/-- during mayBe's loop -/
def Cq (σ τ : St) (k : Nat) : Prop := (∀ i : Nat, i ≠ 63 → τ i = σ i) ∧ τ 63 (2 + 5 * k + 0) = σ (24 + k) 0 ∧ τ 63 (2 + 5 * k + 1) = σ (24 + k) 1 ∧ τ 63 (2 + 5 * k + 3) = σ (24 + k) 3 ∧ τ 63 (2 + 5 * k + 4) = σ (24 + k) 4 ∧ τ 63 1 = σ 21 3
theorem Cq.up {σ τ : St} {k : Nat} (h : Cq σ τ k) (v : Int32) : Cq σ (up τ 63 (2 + 5 * k + 2) v) k := by
  obtain ⟨h1, g0, g1, g3, g4, g5⟩ := h
  refine ⟨fun i hi => by rw [up_n hi, h1 i hi], ?_, ?_, ?_, ?_, ?_⟩ <;> rw [up_s, pk_un (by omega)] <;> assumption
theorem mayBe_r {σ : St} {n k t D : Nat} {x2 : Int32} (hy : YR σ 21 62 n) (hk : k < n) (ht : σ 21 3 = nI t) (ht2 : t ≤ 365) (hD : f_X9_least (σ 62 1) (364 : Int32) = nI D) (hDt : D ≤ t) : ∀ (d f m : Nat) (τ : St), m + d = D + 1 → d < f → Cq σ τ k → ∃ ρ, f_X9_mayBe_49 (nI k) x2 f (f_X1_keepers (24 + k) (σ 21 3) σ) (nI (cntS (mbS σ k) m)) (fstS (mbS σ k) m (-4)) (nI m) τ = some (if x2 = 0 then nI (cntS (mbS σ k) (D + 1)) else fstS (mbS σ k) (D + 1) (-4), ρ) ∧ ∀ i : Nat, i ≠ 63 → ρ i = σ i := by
  have hn := hy.1
  intro d
  induction d with
  | zero =>
    intro f m τ hm hf h
    obtain ⟨f, rfl⟩ : ∃ g, f = g + 1 := ⟨f - 1, by omega⟩
    obtain rfl : m = D + 1 := by omega
    rw [f_X9_mayBe_49_s, h.1 62 (by decide), hD, if_pos (nI_lt (by omega) (by omega))]
    by_cases hx : x2 = 0
    · rw [if_pos hx, if_pos hx]; exact ⟨_, rfl, h.1⟩
    · rw [if_neg hx, if_neg hx]; exact ⟨_, rfl, h.1⟩
  | succ d ih =>
    intro f m τ hm hf h
    obtain ⟨f, rfl⟩ : ∃ g, f = g + 1 := ⟨f - 1, by omega⟩
    have hC := h.up (nI m)
    obtain ⟨q1, q2, q3, q4, q5, q6⟩ := id hC
    rw [f_X9_mayBe_49_s, h.1 62 (by decide), hD, if_neg (nI_nlt (by omega) (by omega)), if_pos (ofi2 (by omega)), ofc2 (by omega), who_day hy hk ht (v := m) (by omega) q1 (by omega) q2 q3 (by rw [up_s, pk_us]) q4 q5 q6, ob_s]
    by_cases hc : f_X1_keepersAfter (24 + k) (σ 21 3 - nI m) σ = f_X1_keepers (24 + k) (σ 21 3) σ
    · have hP : mbS σ k m = true := decide_eq_true hc
      have e1 := ih f (m + 1) _ (by omega) (by omega) hC
      rw [cnt_t hP, fst_t hP] at e1
      rw [if_pos hc]
      by_cases h0 : cntS (mbS σ k) m = 0
      · rw [if_pos h0, h0] at e1
        rw [h0, if_pos (show nI 0 = 0 from rfl), f_X9_mayBe_105_e, f_X9_mayBe_110_e, nI_1, nI_1]
        exact e1
      · rw [if_neg h0] at e1
        have := cnt_le (P := mbS σ k) m
        rw [if_neg (show ¬ nI (cntS (mbS σ k) m) = 0 from fun q => h0 ((nI_eq (b := 0) (by omega) (by omega)).mp q)), f_X9_mayBe_105_e, f_X9_mayBe_110_e, nI_1, nI_1]
        exact e1
    · have hP : ¬ mbS σ k m = true := by unfold mbS; simp [hc]
      have e1 := ih f (m + 1) _ (by omega) (by omega) hC
      rw [cnt_f hP, fst_f hP] at e1
      rw [if_neg hc, f_X9_mayBe_110_e, nI_1]
      exact e1
theorem last_least {σ : St} {t : Nat} (ht : σ 21 3 = nI t) (h2 : t ≤ 365) (he : σ 62 1 = σ 21 3) : ∃ D : Nat, D ≤ t ∧ D ≤ 364 ∧ f_X7_lastDay 21 σ = nI D ∧ f_X9_least (σ 62 1) (364 : Int32) = nI D := by
  unfold f_X7_lastDay f_X9_least
  rw [he, ht]
  by_cases hc : t ≤ 364
  · refine ⟨t, Nat.le_refl t, hc, if_neg (gt364 hc), ?_⟩
    by_cases h3 : t = 364
    · subst h3; rw [if_pos le364]; rfl
    · rw [if_neg (ge364 (by omega))]
  · refine ⟨364, by omega, by omega, if_pos (show nI 364 < nI t from nI_lt (by omega) (by omega)), if_pos (show nI 364 ≤ nI t from nI_le (by omega) (by omega))⟩
theorem p_mayBe {σ : St} (h : Inv σ) (x x2 : Int32) : ∃ r σ2, f_X8_mayBe x x2 σ = some r ∧ f_X9_mayBe x x2 σ = some (r, σ2) ∧ Inv σ2 := by
  obtain ⟨n, hy⟩ := h.1
  have hn := hy.1
  unfold f_X8_mayBe f_X9_mayBe
  rcases deed_two hy x with ⟨k, hk, rfl, e1, e2⟩ | ⟨hx, e1, e2⟩
  · rw [e1, e2]
    show ∃ r σ2, (if f_X8_isBelow x2 2 = true then _ else _) = some r ∧ _
    by_cases hp : isN x2 2
    · rw [yes_if below2 hp, ob_s, if_pos rfl, yes_if isin1 hp, whoHas_now hy hk, ob_s, copies_eq (by decide), ob_s]
      obtain ⟨t, ht, et⟩ := hy.2.2.2.1
      obtain ⟨D, hD1, hD2, hD3, hD4⟩ := last_least et ht hy.2.2.2.2.1
      have hC0 := cp63 hk hy
      have hC : Cq σ (cp52 σ 62 63 52) k := by
        obtain ⟨c1, c2⟩ := id hC0
        unfold DRel at c2
        rw [hC0.1 (24 + k) (by omega)] at c2
        refine ⟨c1, c2.1, c2.2.1, c2.2.2.2.1, c2.2.2.2.2, ?_⟩
        rw [cp52_j]
        show (if 1 < 52 then σ 62 1 else _) = _
        rw [if_pos (by decide), hy.2.2.2.2.1]
      obtain ⟨ρ, r1, r2⟩ := mayBe_r (x2 := x2) hy hk et ht hD4 hD1 (D + 1) fu 0 _ (by omega) (fu_gt (by omega)) hC
      refine ⟨_, ρ, ?_, r1, (same63 r2).inv h⟩
      rw [hD3]
      have e5 := mayBe_c (σ := σ) (k := k) (x1 := nI k) (x2 := x2) (D + 1) fu 0 (-4) (fu_gt (by omega)) (by omega)
      rw [pk_m1] at e5
      exact e5
    · rw [no_if below2 hp, ob_s, if_pos rfl, no_if isin1 hp]
      exact ⟨_, _, rfl, rfl, h⟩
  · rw [e1, e2]
    exact ⟨_, _, rfl, rfl, h⟩
/-- who together know -/
theorem or_mask {P Q : Nat → Bool} : ∀ n : Nat, maskS P n ||| maskS Q n = maskS (fun k => P k || Q k) n
  | 0 => by show (0 : Int32) ||| 0 = 0; decide
  | n + 1 => by
    rw [maskS_s, maskS_s, maskS_s, ← or_mask n]
    have e : ∀ a b c d : Int32, (a ||| c) ||| (b ||| d) = (a ||| b) ||| (c ||| d) := fun a b c d => by
      rw [Int32.or_assoc, Int32.or_assoc, ← Int32.or_assoc c b d, Int32.or_comm c b, Int32.or_assoc b c d]
    rw [e]
    have z : (0 : Int32) ||| 0 = 0 := by decide
    cases P n <;> cases Q n <;> simp
theorem mask_no {P : Nat → Bool} : ∀ n : Nat, (∀ k, k < n → P k = false) → maskS P n = 0
  | 0, _ => rfl
  | n + 1, h => by rw [maskS_f (by rw [h n (by omega)]; decide), mask_no n (fun k hk => h k (by omega))]
def anyS (σ : St) (g : Int32) (k : Nat) : Nat → Bool
  | 0 => false
  | m + 1 => anyS σ g k m || (f_X9_has g (nI m) && f_X1_isKept (24 + k) (nI m) (σ 21 3) σ)
theorem knownBy_eq {σ : St} {n : Nat} (hy : YR σ 21 62 n) (g : Int32) : f_X9_knownBy g σ = some (maskS (fun k => anyS σ g k 5) n) := by
  unfold f_X9_knownBy
  have e := loop_q (fun f a k => f_X9_knownBy_4 g σ f a (nI k)) (fun m => maskS (fun k => anyS σ g k m) n) 5 (some (maskS (fun k => anyS σ g k 5) n)) ?_ ?_ fu (fu_gt (by decide))
  · rw [show maskS (fun k => anyS σ g k 0) n = 0 from mask_no n (fun _ _ => rfl)] at e
    exact e
  · intro f m hm
    show f_X9_knownBy_4 g σ (f + 1) _ (nI m) = f_X9_knownBy_4 g σ f _ (nI (m + 1))
    rw [f_X9_knownBy_4_s, if_neg (ge5 hm)]
    by_cases hc : f_X9_has g (nI m) = true
    · rw [if_pos hc, knowsIn_eq hy.rd, hy.2.2.2.2.1, ob_s, f_X9_knownBy_30_e, nI_1, or_mask]
      rw [maskS_congr (Q := fun k => anyS σ g k (m + 1)) (fun k _ => by show _ = (anyS σ g k m || _); rw [hc, Bool.true_and])]
    · rw [if_neg hc, f_X9_knownBy_30_e, nI_1, or0]
      rw [maskS_congr (P := fun k => anyS σ g k (m + 1)) (Q := fun k => anyS σ g k m) (fun k _ => by show (anyS σ g k m || _) = _; simp [hc])]
  · intro f
    show f_X9_knownBy_4 g σ (f + 1) _ (nI 5) = _
    rw [f_X9_knownBy_4_s, if_pos le5]
theorem grp_b : ∀ g : Nat, g < 32 → ∀ b0 b1 b2 b3 b4 : Bool, (!decide (((((((0 : Int32) ||| (if b0 = true then (1 : Int32) <<< (nI 0 &&& 31) else 0)) ||| (if b1 = true then (1 : Int32) <<< (nI 1 &&& 31) else 0)) ||| (if b2 = true then (1 : Int32) <<< (nI 2 &&& 31) else 0)) ||| (if b3 = true then (1 : Int32) <<< (nI 3 &&& 31) else 0)) ||| (if b4 = true then (1 : Int32) <<< (nI 4 &&& 31) else 0)) &&& nI g = 0)) = (((((false || (f_X9_has (nI g) (nI 0) && b0)) || (f_X9_has (nI g) (nI 1) && b1)) || (f_X9_has (nI g) (nI 2) && b2)) || (f_X9_has (nI g) (nI 3) && b3)) || (f_X9_has (nI g) (nI 4) && b4)) := by decide +kernel
theorem keep_chain {σ : St} {n k : Nat} (hy : YR σ 21 62 n) (hk : k < n) : f_X1_keepers (24 + k) (σ 21 3) σ = whoS (σ (24 + k) 2) (σ (24 + k) 3) (σ (24 + k) 4) (σ (24 + k) 5) (σ (24 + k) 6) (σ 21 3) := by
  have hd := (hy.d hk).1
  rw [whoS_eq, hd.keep]
  unfold f_X1_keepers
  by_cases hc : σ 21 3 < σ (24 + k) 2
  · rw [if_pos hc, if_pos hc]
  · rw [if_neg hc, if_neg hc, keepers_c]
theorem grp_any {σ : St} {n k g : Nat} (hy : YR σ 21 62 n) (hk : k < n) (hg : g < 32) : (!decide (f_X1_keepers (24 + k) (σ 21 3) σ &&& nI g = 0)) = anyS σ (nI g) k 5 := by
  rw [keep_chain hy hk]
  exact grp_b g hg (f_X1_isKept (24 + k) (nI 0) (σ 21 3) σ) (f_X1_isKept (24 + k) (nI 1) (σ 21 3) σ) (f_X1_isKept (24 + k) (nI 2) (σ 21 3) σ) (f_X1_isKept (24 + k) (nI 3) (σ 21 3) σ) (f_X1_isKept (24 + k) (nI 4) (σ 21 3) σ)
theorem group_eq {σ : St} {n g : Nat} (hy : YR σ 21 62 n) (hg : g < 32) : f_X7_memoryOfGroup 21 (nI g) σ = some (maskS (fun k => anyS σ (nI g) k 5) n) := by
  have hn := hy.1
  unfold f_X7_memoryOfGroup
  refine loop_r (fun f a k => f_X7_memoryOfGroup_4 21 (nI g) σ f a (nI k)) (maskS _) n ?_ ?_ fu (fu_gt (by omega))
  · intro f k hk
    show f_X7_memoryOfGroup_4 21 (nI g) σ (f + 1) _ (nI k) = f_X7_memoryOfGroup_4 21 (nI g) σ f _ (nI (k + 1))
    have eg := grp_any hy hk hg
    rw [f_X7_memoryOfGroup_4_s]
    by_cases ht : toldS σ 21 k = true
    · rw [toldAt_t hn hy.2.1 hk ht, hy.2.1, if_neg (nI_ge hk (by omega)), ob_s, oc_ss]
      show (if f_X1_keepers (24 + k) (σ 21 3) σ &&& nI g = 0 then _ else _) = _
      by_cases hc : f_X1_keepers (24 + k) (σ 21 3) σ &&& nI g = 0
      · rw [if_pos hc, f_X7_memoryOfGroup_44_e, nI_1, maskS_f (by rw [← eg, decide_eq_true hc]; decide)]
      · rw [if_neg hc, f_X7_memoryOfGroup_44_e, nI_1, maskS_t (by rw [← eg, decide_eq_false hc]; rfl)]
    · have h0 : f_X1_keepers (24 + k) (σ 21 3) σ = 0 := by
        unfold f_X1_keepers
        exact if_pos (told_no ht)
      have hc : f_X1_keepers (24 + k) (σ 21 3) σ &&& nI g = 0 := by rw [h0]; simp
      rw [toldAt_f hn hy.2.1 hk ht, hy.2.1, if_neg (nI_ge hk (by omega)), ob_s, oc_nn, f_X7_memoryOfGroup_44_e, nI_1, maskS_f (by rw [← eg, decide_eq_true hc]; decide)]
  · intro f
    show f_X7_memoryOfGroup_4 21 (nI g) σ (f + 1) _ (nI n) = _
    rw [f_X7_memoryOfGroup_4_s, hy.2.1, if_pos (nI_le (Nat.le_refl n) (by omega))]
theorem wit_two {σ : St} {n : Nat} (hy : YR σ 21 62 n) (m : Int32) : ∀ (d f1 f2 g b : Nat), g + d = 31 → d < f1 → d < f2 → b < 32 → ∃ r, f_X8_witnesses_15 σ f1 m (nI b) (nI g) = some r ∧ f_X9_witnesses_12 σ f2 m (nI b) (nI g) = some r := by
  intro d
  induction d with
  | zero =>
    intro f1 f2 g b hg h1 h2 hb
    obtain ⟨f1, rfl⟩ : ∃ g, f1 = g + 1 := ⟨f1 - 1, by omega⟩
    obtain ⟨f2, rfl⟩ : ∃ g, f2 = g + 1 := ⟨f2 - 1, by omega⟩
    obtain rfl : g = 31 := by omega
    rw [f_X8_witnesses_15_s, f_X9_witnesses_12_s, if_pos le31, if_pos le31]
    exact ⟨_, rfl, rfl⟩
  | succ d ih =>
    intro f1 f2 g b hg h1 h2 hb
    obtain ⟨f1, rfl⟩ : ∃ g, f1 = g + 1 := ⟨f1 - 1, by omega⟩
    obtain ⟨f2, rfl⟩ : ∃ g, f2 = g + 1 := ⟨f2 - 1, by omega⟩
    rw [f_X8_witnesses_15_s, f_X9_witnesses_12_s, if_neg (ge31 (k := g) (by omega)), if_neg (ge31 (k := g) (by omega)), pop_bits (v := g) (by omega), ob_s, pop_bits (v := b) (by omega), ob_s]
    by_cases hc : f_J6_bitCount_0f7a4 (nI b) ≤ f_J6_bitCount_0f7a4 (nI g)
    · rw [if_pos hc, if_pos hc, f_X8_witnesses_37_e, if_pos rfl, f_X8_witnesses_58_e, f_X9_witnesses_40_e, nI_1]
      exact ih f1 f2 (g + 1) b (by omega) (by omega) (by omega) hb
    · rw [if_neg hc, if_neg hc, f_X8_witnesses_37_e, if_neg (by decide), group_eq hy (by omega), ob_s, knownBy_eq hy, ob_s]
      by_cases hm : maskS (fun k => anyS σ (nI g) k 5) n = m
      · rw [if_pos hm, if_pos hm, f_X8_witnesses_58_e, f_X9_witnesses_40_e, nI_1]
        exact ih f1 f2 (g + 1) g (by omega) (by omega) (by omega) (by omega)
      · rw [if_neg hm, if_neg hm, f_X8_witnesses_58_e, f_X9_witnesses_40_e, nI_1]
        exact ih f1 f2 (g + 1) b (by omega) (by omega) (by omega) hb
theorem p_witnesses {σ : St} (h : Inv σ) : ∃ r, f_X8_witnesses σ = some r ∧ f_X9_witnesses σ = some r := by
  obtain ⟨n, hy⟩ := h.1
  unfold f_X8_witnesses f_X9_witnesses
  rw [show (31 : Int32) = nI 31 from rfl, group_eq hy (by decide), ob_s, knownBy_eq hy, ob_s]
  exact wit_two hy _ 31 fu fu 0 31 (by decide) (fu_gt (by decide)) (fu_gt (by decide)) (by decide)
