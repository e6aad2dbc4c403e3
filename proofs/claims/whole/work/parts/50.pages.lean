/-! PURE: what reads the print: place, pages, looksUp, uncut -/
theorem ins_shape {ah : Int32 → Int32 → Bool} {x : Int32} : ∀ (v : Nat) (o : Nat → Int32), ∃ p : Nat, p ≤ v ∧ (∀ j : Nat, j < p → insS ah x v o j = o j) ∧ insS ah x v o p = x ∧ (∀ j : Nat, p < j → j ≤ v → insS ah x v o j = o (j - 1)) ∧ (p = 0 ∨ ¬ ah x (o (p - 1)) = true) ∧ ∀ i : Nat, p ≤ i → i < v → ah x (o i) = true
  | 0, o => ⟨0, Nat.le_refl 0, fun j hj => absurd hj (Nat.not_lt_zero j), pk_us, fun j h1 h2 => by omega, Or.inl rfl, fun i _ h => absurd h (Nat.not_lt_zero i)⟩
  | v + 1, o => by
    by_cases hc : ah x (o v) = true
    · obtain ⟨p, h1, h2, h3, h4, h5, h6⟩ := ins_shape (ah := ah) (x := x) v (upd o (v + 1) (o v))
      have e : insS ah x (v + 1) o = insS ah x v (upd o (v + 1) (o v)) := by rw [ins_s, if_pos hc]
      refine ⟨p, by omega, fun j hj => ?_, ?_, fun j g1 g2 => ?_, ?_, fun i g1 g2 => ?_⟩
      · rw [e, h2 j hj, pk_un (by omega)]
      · rw [e, h3]
      · rw [e]
        by_cases hj : j ≤ v
        · rw [h4 j g1 hj, pk_un (by omega)]
        · obtain rfl : j = v + 1 := by omega
          rw [ins_hi v _ _ (by omega), pk_us]
          rfl
      · rcases h5 with h5 | h5
        · exact Or.inl h5
        · by_cases hp : p = 0
          · exact Or.inl hp
          · rw [pk_un (by omega)] at h5
            exact Or.inr h5
      · by_cases hi : i < v
        · have := h6 i g1 hi
          rw [pk_un (by omega)] at this
          exact this
        · obtain rfl : i = v := by omega
          exact hc
    · have e : insS ah x (v + 1) o = upd o (v + 1) x := by rw [ins_s, if_neg hc]
      refine ⟨v + 1, Nat.le_refl _, fun j hj => by rw [e, pk_un (by omega)], by rw [e, pk_us], fun j g1 g2 => by omega, Or.inr hc, fun i g1 g2 => by omega⟩
theorem ins_inj {ah : Int32 → Int32 → Bool} {x : Int32} {v : Nat} {o : Nat → Int32} (h : ∀ i j : Nat, i < j → j < v → ¬ o i = o j) (hx : ∀ j : Nat, j < v → ¬ o j = x) : ∀ i j : Nat, i < j → j < v + 1 → ¬ insS ah x v o i = insS ah x v o j := by
  obtain ⟨p, h1, h2, h3, h4, -⟩ := ins_shape (ah := ah) (x := x) v o
  intro i j hij hj
  by_cases a : i < p
  · rw [h2 i a]
    by_cases b : j < p
    · rw [h2 j b]; exact h i j hij (by omega)
    · by_cases c : j = p
      · rw [c, h3]; exact hx i (by omega)
      · rw [h4 j (by omega) (by omega)]; exact h i (j - 1) (by omega) (by omega)
  · by_cases c : i = p
    · rw [c, h3, h4 j (by omega) (by omega)]; exact fun q => hx (j - 1) (by omega) q.symm
    · rw [h4 i (by omega) (by omega), h4 j (by omega) (by omega)]; exact h (i - 1) (j - 1) (by omega) (by omega)
theorem srt_inj {σ : St} {o : Nat → Int32} : ∀ k : Nat, k ≤ 1000 → ∀ i j : Nat, i < j → j < (srtS σ o k).2 → ¬ (srtS σ o k).1 i = (srtS σ o k).1 j
  | 0, _ => fun i j _ hj => absurd hj (Nat.not_lt_zero j)
  | k + 1, hk => by
    have ih := srt_inj (σ := σ) (o := o) k (by omega)
    have hin := srt_in (σ := σ) (o := o) k
    by_cases ht : toldS σ 21 k = true
    · rw [srt_s, if_pos ht]
      exact ins_inj ih (fun j hj q => by
        obtain ⟨z, h1, h2, -⟩ := hin j hj
        rw [h2, nI_eq (by omega) (by omega)] at q
        omega)
    · rw [srt_s, if_neg ht]
      exact ih
theorem pg_rng {σ : St} {o : Nat → Int32} : ∀ j : Nat, ∃ c : Nat, 1 ≤ c ∧ c ≤ j + 1 ∧ (pgS σ o j).2 = nI c
  | 0 => ⟨1, by decide, by decide, rfl⟩
  | j + 1 => by
    obtain ⟨c, h1, h2, h3⟩ := pg_rng (σ := σ) (o := o) j
    rw [pg_s]
    split
    · exact ⟨c, h1, by omega, h3⟩
    · exact ⟨c + 1, by omega, by omega, by
        show (pgS σ o j).2 + 1 = _
        rw [h3, nI_1]⟩
/-- both prints: m told, in the order o, on the pages pg -/
def PR (σ : St) (n m : Nat) (o pg : Nat → Int32) (pc : Int32) (ρ1 ρ2 : St) : Prop := m ≤ n ∧ (∀ j : Nat, j < m → ∃ q : Nat, q < n ∧ o j = nI q ∧ toldS σ 21 q = true) ∧ (∀ i j : Nat, i < j → j < m → ¬ o i = o j) ∧ (∀ j : Nat, j < m → ∃ c : Nat, c < 100 ∧ pg j = nI c) ∧ (∀ i : Nat, i ≠ 18 → i ≠ 19 → i ≠ 20 → ρ1 i = σ i) ∧ Pk ρ1 ρ2 ∧ ρ1 18 3 = nI m ∧ ρ1 18 4 = pc ∧ (∀ j : Nat, j < m → ρ1 19 j = o j ∧ ρ1 20 j = pg j) ∧ ρ2 61 7 = nI m ∧ ρ2 61 8 = pc ∧ (∀ j : Nat, j < m → ρ2 66 j = o j ∧ ρ2 67 j = pg j) ∧ o = (srtS σ (σ 19) n).1 ∧ m = (srtS σ (σ 19) n).2
theorem ah_congr {σ τ : St} (h : ∀ i : Nat, i ≠ 18 → i ≠ 19 → i ≠ 20 → τ i = σ i) (x y : Int32) : ahS τ x y = ahS σ x y := by
  unfold ahS
  exact go_congr (h _ (by omega) (by omega) (by omega)) (h _ (by omega) (by omega) (by omega))
theorem ins_congr {f g : Int32 → Int32 → Bool} {x : Int32} (h : ∀ x y, f x y = g x y) : ∀ (v : Nat) (o : Nat → Int32), insS f x v o = insS g x v o
  | 0, _ => rfl
  | v + 1, o => by rw [ins_s, ins_s, h, ins_congr h v]
theorem srt_congr {σ τ : St} (h : ∀ i : Nat, i ≠ 18 → i ≠ 19 → i ≠ 20 → τ i = σ i) (o : Nat → Int32) : ∀ k : Nat, srtS τ o k = srtS σ o k
  | 0 => srt_0.trans srt_0.symm
  | k + 1 => by
    have et : toldS τ 21 k = toldS σ 21 k := by unfold toldS; rw [h 21 (by decide) (by decide) (by decide), h (21 + 1 + 2 + k) (by omega) (by omega) (by omega)]
    rw [srt_s, srt_s, srt_congr h o k, et, ins_congr (ah_congr h)]
theorem pgs_congr {σ τ : St} (h : ∀ i : Nat, i ≠ 18 → i ≠ 19 → i ≠ 20 → τ i = σ i) (o : Nat → Int32) : ∀ k : Nat, pgS τ o k = pgS σ o k
  | 0 => pg_0.trans pg_0.symm
  | k + 1 => by rw [pg_s, pg_s, pgs_congr h o k, size_congr (h (24 + (o k).toNatClampNeg) (by omega) (by omega) (by omega))]
theorem both {σ : St} {n : Nat} (hy : YR σ 21 62 n) : ∃ (m : Nat) (o pg : Nat → Int32) (pc : Int32) (ρ1 ρ2 : St), f_X0_print σ = some ρ1 ∧ f_X9_prints ρ1 = some ρ2 ∧ PR σ n m o pg pc ρ1 ρ2 := by
  have hn := hy.1
  obtain ⟨ρ1, c1, c2, c3, c4, c5, c6⟩ := print_c hy
  have hy1 : YR ρ1 21 62 n := hy.congr (c2 _ (by decide) (by decide) (by decide)) (c2 _ (by decide) (by decide) (by decide)) (fun k hk => c2 _ (by omega) (by omega) (by omega))
  obtain ⟨ρ2, r1, r2, r3, r4, r5, r6⟩ := print_r hy1
  obtain ⟨a1, a2⟩ := srt_agree (σ := σ) (o := ρ1 66) (p := σ 19) n
  rw [srt_congr c2] at r3 r4 r5 r6
  have hle := srt_le (σ := σ) (o := σ 19) n
  refine ⟨(srtS σ (σ 19) n).2, (srtS σ (σ 19) n).1, fun j => (pgS σ (srtS σ (σ 19) n).1 (j + 1)).2 - 1, pcS σ (srtS σ (σ 19) n).1 (srtS σ (σ 19) n).2, ρ1, ρ2, c1, r1, hle, fun j hj => ?_, srt_inj n (by omega), fun j hj => ?_, c2, r2, c4, c5, fun j hj => ⟨by rw [c3], c6 j hj⟩, by rw [r4, a1], ?_, fun j hj => ⟨by rw [r3, a2 j (by rw [a1]; exact hj)], ?_⟩, rfl, rfl⟩
  · exact srt_in n j hj
  · obtain ⟨c, h1, h2, h3⟩ := pg_rng (σ := σ) (o := (srtS σ (σ 19) n).1) (j + 1)
    exact ⟨c - 1, by omega, by
      show (pgS σ _ (j + 1)).2 - 1 = _
      rw [h3, show c = (c - 1) + 1 by omega, nI_pred, Nat.add_sub_cancel]⟩
  · rw [r5, a1]
    unfold pcS
    rw [pgs_congr c2, pg_agree (p := (srtS σ (σ 19) n).1) _ (fun j hj => a2 j (by rw [a1]; exact hj))]
  · rw [r6 j (by rw [a1]; exact hj), pgs_congr c2, pg_agree (p := (srtS σ (σ 19) n).1) _ (fun i hi => a2 i (by rw [a1]; omega))]
theorem PR.inv {σ ρ1 ρ2 : St} {n m : Nat} {o pg : Nat → Int32} {pc : Int32} (h : PR σ n m o pg pc ρ1 ρ2) (q : Inv σ) : Inv ρ1 ∧ Inv ρ2 := by
  obtain ⟨-, -, -, -, h1, h2, -⟩ := h
  have s1 : Same σ ρ1 := ⟨fun i hi => h1 i (by omega) (by omega) (by omega), by rw [h1 0 (by decide) (by decide) (by decide)], by rw [h1 61 (by decide) (by decide) (by decide)]⟩
  have s2 : Same ρ1 ρ2 := ⟨fun i hi => h2.1 i (by omega) (by omega) (by omega), by rw [h2.1 0 (by decide) (by decide) (by decide)], h2.2 4 (by decide) (by decide)⟩
  exact ⟨s1.inv q, (s1.tr s2).inv q⟩
theorem p_pages {σ : St} (h : Inv σ) : ∃ r σ1 σ2, f_X8_pages σ = some (r, σ1) ∧ f_X9_pages σ1 = some (r, σ2) ∧ Inv σ2 := by
  obtain ⟨n, hy⟩ := h.1
  obtain ⟨m, o, pg, pc, ρ1, ρ2, e1, e2, hp⟩ := both hy
  unfold f_X8_pages f_X9_pages
  rw [e1, ob_s]
  refine ⟨_, ρ1, ρ2, rfl, ?_, (hp.inv h).2⟩
  obtain ⟨-, -, -, -, -, -, -, q1, -, -, q2, -⟩ := hp
  rw [e2, ob_s, q1, q2]
theorem place_two {σ ρ1 ρ2 : St} {n m : Nat} {o pg : Nat → Int32} {pc : Int32} (h : PR σ n m o pg pc ρ1 ρ2) (hn : n ≤ 10) (x : Int32) : ∀ (d f1 f2 j : Nat), j + d = m → d < f1 → d < f2 → ∃ r, f_X0_placeOf_2 x ρ1 f1 (nI j) = some r ∧ f_X9_placeOf_2 x ρ2 f2 (nI j) = some r ∧ (r = -4 ∧ (∀ i : Nat, j ≤ i → i < m → ¬ o i = x) ∨ ∃ i : Nat, j ≤ i ∧ i < m ∧ r = nI i ∧ o i = x) := by
  obtain ⟨h1, h2, h3, h4, h5, h6, h7, h8, h9, h10, h11, h12, -⟩ := h
  intro d
  induction d with
  | zero =>
    intro f1 f2 j hj g1 g2
    obtain ⟨f1, rfl⟩ : ∃ g, f1 = g + 1 := ⟨f1 - 1, by omega⟩
    obtain ⟨f2, rfl⟩ : ∃ g, f2 = g + 1 := ⟨f2 - 1, by omega⟩
    obtain rfl : j = m := by omega
    rw [f_X0_placeOf_2_s, f_X9_placeOf_2_s, h7, h10, if_pos (nI_le (Nat.le_refl j) (by omega)), if_pos (nI_le (Nat.le_refl j) (by omega))]
    exact ⟨_, rfl, rfl, Or.inl ⟨rfl, fun i a b => by omega⟩⟩
  | succ d ih =>
    intro f1 f2 j hj g1 g2
    obtain ⟨f1, rfl⟩ : ∃ g, f1 = g + 1 := ⟨f1 - 1, by omega⟩
    obtain ⟨f2, rfl⟩ : ∃ g, f2 = g + 1 := ⟨f2 - 1, by omega⟩
    rw [f_X0_placeOf_2_s, f_X9_placeOf_2_s, h7, h10, if_neg (nI_ge (a := j) (b := m) (by omega) (by omega)), if_neg (nI_ge (a := j) (b := m) (by omega) (by omega)), numberIn_eq (j := j) (m := m) (by omega) h7 (by omega), ob_s, if_pos (inb_nI (k := j) (by omega) (by decide)), nI_clamp (n := j) (by omega), (h9 j (by omega)).1, (h12 j (by omega)).1, nI_1]
    by_cases hc : o j = x
    · rw [if_pos hc, if_pos hc]
      exact ⟨_, rfl, rfl, Or.inr ⟨j, Nat.le_refl j, by omega, rfl, hc⟩⟩
    · rw [if_neg hc, if_neg hc]
      obtain ⟨r, r1, r2, r3⟩ := ih f1 f2 (j + 1) (by omega) (by omega) (by omega)
      refine ⟨r, r1, r2, ?_⟩
      rcases r3 with ⟨r3, r4⟩ | ⟨i, r3, r4⟩
      · refine Or.inl ⟨r3, fun i a b => ?_⟩
        by_cases hi : i = j
        · rw [hi]; exact hc
        · exact r4 i (by omega) b
      · exact Or.inr ⟨i, by omega, r4⟩
theorem p_place {σ : St} (h : Inv σ) (x x2 : Int32) : ∃ r σ1 σ2, f_X8_place x x2 σ = some (r, σ1) ∧ f_X9_place x x2 σ1 = some (r, σ2) ∧ Inv σ2 := by
  obtain ⟨n, hy⟩ := h.1
  have hn := hy.1
  unfold f_X8_place
  rcases deed_two hy x with ⟨k, hk, rfl, e1, e2⟩ | ⟨hx, e1, e2⟩
  · rw [e1]
    show ∃ r σ1 σ2, (if f_X8_isBelow x2 2 = true then _ else _) = some (r, σ1) ∧ _
    by_cases hp : isN x2 2
    · obtain ⟨m, o, pg, pc, ρ1, ρ2, p1, p2, hq⟩ := both hy
      obtain ⟨r, r1, r2, r3⟩ := place_two hq hn (nI k) m fu fu 0 (by omega) (fu_gt (by have := hq.1; omega)) (fu_gt (by have := hq.1; omega))
      have r1' : f_X0_placeOf (nI k) ρ1 = some r := r1
      have r2' : f_X9_placeOf (nI k) ρ2 = some r := r2
      have hI := hq.inv h
      have hy1 : YR ρ1 21 62 n := by
        have c2 := hq.2.2.2.2.1
        exact hy.congr (c2 _ (by decide) (by decide) (by decide)) (c2 _ (by decide) (by decide) (by decide)) (fun k hk => c2 _ (by omega) (by omega) (by omega))
      have e2' : f_X9_isDeed (nI k) ρ1 = some true := by
        obtain ⟨b, hb, hi⟩ := deed_iff (x := nI k) hy1.1 hy1.2.2.1
        rw [hi.mpr ⟨k, hk, rfl⟩] at hb
        exact hb
      unfold f_X9_place
      rw [yes_if below2 hp, p1, ob_s]
      by_cases h0 : x2 = 0
      · rw [if_pos h0, r1', ob_s]
        refine ⟨r, ρ1, ρ2, rfl, ?_, hI.2⟩
        rw [e2', ob_s, if_pos rfl, yes_if isin1 hp, p2, ob_s, r2', ob_s, if_pos h0, f_X9_place_37_e]
        by_cases hr : r < 0
        · rw [if_pos hr]
        · rw [if_neg hr]
      · rw [if_neg h0]
        have hm1 := hq.1
        obtain ⟨-, -, -, -, -, -, h7, -, h9, -, -, h12, -⟩ := hq
        rcases r3 with ⟨rfl, -⟩ | ⟨i, -, hi, rfl, -⟩
        · refine ⟨-4, ρ1, ρ2, ?_, ?_, hI.2⟩
          · unfold f_X0_pageOf
            rw [r1', ob_s, pageIn_m4]
            rfl
          · rw [e2', ob_s, if_pos rfl, yes_if isin1 hp, p2, ob_s, r2', ob_s, f_X9_place_37_e, if_pos (by decide)]
        · have hi10 : i < 10 := by omega
          refine ⟨pg i, ρ1, ρ2, ?_, ?_, hI.2⟩
          · unfold f_X0_pageOf
            rw [r1', ob_s, pageIn_eq (j := i) (m := m) (by omega) h7 hi, (h9 i hi).2]
            rfl
          · rw [e2', ob_s, if_pos rfl, yes_if isin1 hp, p2, ob_s, r2', ob_s, if_neg (nI_n0 (by omega)), if_neg h0, if_pos (inb_nI hi10 (by decide)), nI_clamp (n := i) (by omega), (h12 i hi).2]
    · unfold f_X9_place
      rw [no_if below2 hp]
      refine ⟨_, _, _, rfl, ?_, h⟩
      rw [e2, ob_s, if_pos rfl, no_if isin1 hp]
  · unfold f_X9_place
    rw [e1]
    refine ⟨_, _, _, rfl, ?_, h⟩
    rw [e2]
    rfl
