/-! PURE: looksUp, uncut -/
theorem size_m1 : ∀ a : Nat, a < 8 → ∀ b : Nat, b < 10 → ¬ f_X4_size (nI a) (nI b) ≤ -1 := by decide +kernel
theorem DOk.sm1 {σ : St} {i : Nat} (h : DOk σ i) : ¬ f_X1_size i σ ≤ -1 := by
  obtain ⟨a, b, d, w, s, ha, hb, hd, hw, hs, ht, e0, e1, -⟩ := h
  unfold f_X1_size
  rw [e0, e1]
  exact size_m1 a ha b hb
theorem PR.yr {σ ρ1 ρ2 : St} {n m : Nat} {o pg : Nat → Int32} {pc : Int32} (h : PR σ n m o pg pc ρ1 ρ2) (hy : YR σ 21 62 n) : YR ρ1 21 62 n ∧ YR ρ2 21 62 n := by
  obtain ⟨-, -, -, -, c, r, -⟩ := h
  have y1 : YR ρ1 21 62 n := hy.congr (c _ (by decide) (by decide) (by decide)) (c _ (by decide) (by decide) (by decide)) (fun k hk => c _ (by omega) (by omega) (by omega))
  exact ⟨y1, y1.congr (r.1 _ (by decide) (by decide) (by decide)) (r.1 _ (by decide) (by decide) (by decide)) (fun k hk => r.1 _ (by omega) (by omega) (by omega))⟩
/-- an entry of the print: which deed, and what both sides read of it -/
theorem PR.at {σ ρ1 ρ2 : St} {n m : Nat} {o pg : Nat → Int32} {pc : Int32} (h : PR σ n m o pg pc ρ1 ρ2) (hn : n ≤ 10) {j : Nat} (hj : j < m) : ∃ q : Nat, q < n ∧ o j = nI q ∧ f_X0_numberIn (nI j) ρ1 = some (nI q) ∧ ρ1 19 j = nI q ∧ ρ1 20 j = pg j ∧ ρ2 66 j = nI q ∧ ρ2 67 j = pg j ∧ ρ1 (24 + q) = σ (24 + q) ∧ ρ2 (24 + q) = σ (24 + q) ∧ toldS σ 21 q = true := by
  obtain ⟨h1, h2, h3, h4, h5, h6, h7, h8, h9, h10, h11, h12, -⟩ := h
  obtain ⟨q, hq, eq, ht⟩ := h2 j hj
  have a := h9 j hj
  have b := h12 j hj
  have e1 : ρ1 (24 + q) = σ (24 + q) := h5 _ (by omega) (by omega) (by omega)
  exact ⟨q, hq, eq, by rw [numberIn_eq (m := m) (by omega) h7 hj, a.1, eq], by rw [a.1, eq], a.2, by rw [b.1, eq], b.2, e1, (h6.1 _ (by omega) (by omega) (by omega)).trans e1, ht⟩
def szS (σ : St) (o : Nat → Int32) (j : Nat) : Int32 := f_X1_size (24 + (o j).toNatClampNeg) σ
theorem looks_two {σ ρ1 ρ2 : St} {n m : Nat} {o pg : Nat → Int32} {pc : Int32} (h : PR σ n m o pg pc ρ1 ρ2) (hy : YR σ 21 62 n) (x x2 : Int32) : ∀ (d f1 f2 j : Nat) (v s w : Int32), j + d = m → d < f1 → d < f2 → (v = -4 ∧ s = -1 ∧ w = -4 ∨ ∃ i : Nat, i < j ∧ v = o i ∧ s = szS σ o i ∧ w = nI i) → ∃ v' w' : Int32, f_X0_greatestBy_8 x ρ1 f1 v s (nI j) = some v' ∧ f_X9_looksUp_28 x x2 f2 w (nI j) ρ2 = (if x2 = 0 then (if 0 ≤ w' then (if inb w' 10 then some (ρ2 67 w'.toNatClampNeg, ρ2) else none) else some ((-4 : Int32), ρ2)) else f_X9_looksUp_126 x x2 fu w' 0 0 ρ2) ∧ (v' = -4 ∧ w' = -4 ∨ ∃ i : Nat, i < m ∧ v' = o i ∧ w' = nI i) := by
  have hn := hy.1
  have hm := h.1
  have h7 : ρ1 18 3 = nI m := h.2.2.2.2.2.2.1
  have h10 : ρ2 61 7 = nI m := h.2.2.2.2.2.2.2.2.2.1
  have hy2 := (h.yr hy).2
  intro d
  induction d with
  | zero =>
    intro f1 f2 j v s w hj g1 g2 hi
    obtain ⟨f1, rfl⟩ : ∃ g, f1 = g + 1 := ⟨f1 - 1, by omega⟩
    obtain ⟨f2, rfl⟩ : ∃ g, f2 = g + 1 := ⟨f2 - 1, by omega⟩
    obtain rfl : j = m := by omega
    rw [f_X0_greatestBy_8_s, f_X9_looksUp_28_s, h7, h10, if_pos (nI_le (Nat.le_refl j) (by omega)), if_pos (nI_le (Nat.le_refl j) (by omega))]
    refine ⟨v, w, rfl, rfl, ?_⟩
    rcases hi with ⟨a, -, b⟩ | ⟨i, a, b, -, c⟩
    · exact Or.inl ⟨a, b⟩
    · exact Or.inr ⟨i, a, b, c⟩
  | succ d ih =>
    intro f1 f2 j v s w hj g1 g2 hi
    obtain ⟨f1, rfl⟩ : ∃ g, f1 = g + 1 := ⟨f1 - 1, by omega⟩
    obtain ⟨f2, rfl⟩ : ∃ g, f2 = g + 1 := ⟨f2 - 1, by omega⟩
    obtain ⟨q, hq, eq, ed, a1, a2, b1, b2, c1, c2, ht⟩ := h.at hn (j := j) (by omega)
    have esz : szS σ o j = f_X1_size (24 + q) σ := by unfold szS; rw [eq, nI_clamp (n := q) (by omega)]
    have es2 : f_X9_sizeOf 62 (nI q) ρ2 = some (szS σ o j) := by rw [sizeOf_now hy2 hq, size_congr c2, esz]
    have b1' : ρ2 66 (nI j).toNatClampNeg = nI q := by rw [nI_clamp (n := j) (by omega), b1]
    have a1' : ρ1 19 (nI j).toNatClampNeg = nI q := by rw [nI_clamp (n := j) (by omega), a1]
    have jn : inb (nI j) 10 := inb_nI (by omega) (by decide)
    have ew : ρ2 62 (f_X9_of (nI q) (3 : Int32)).toNatClampNeg = σ (24 + q) 3 := by rw [ofc3 (by omega), (hy2.d hq).2.2.2.2.1, c2]
    rw [f_X0_greatestBy_8_s, f_X9_looksUp_28_s, h7, h10, if_neg (nI_ge (a := j) (b := m) (by omega) (by omega)), if_neg (nI_ge (a := j) (b := m) (by omega) (by omega)), deedIn_of ed hn (h.yr hy).1.2.1 hq, ob_s, oc_ss, ed, ob_s, if_pos jn, b1', if_pos (ofi3 (by omega)), ew, c1]
    by_cases hw : σ (24 + q) 3 = x
    · rw [if_pos hw, if_pos hw, size_congr c1, ← esz]
      have take : ∃ v' w' : Int32, f_X0_greatestBy_8 x ρ1 f1 (nI q) (szS σ o j) (nI (j + 1)) = some v' ∧ f_X9_looksUp_28 x x2 f2 (nI j) (nI (j + 1)) ρ2 = (if x2 = 0 then (if 0 ≤ w' then (if inb w' 10 then some (ρ2 67 w'.toNatClampNeg, ρ2) else none) else some ((-4 : Int32), ρ2)) else f_X9_looksUp_126 x x2 fu w' 0 0 ρ2) ∧ (v' = -4 ∧ w' = -4 ∨ ∃ i : Nat, i < m ∧ v' = o i ∧ w' = nI i) := ih f1 f2 (j + 1) _ _ _ (by omega) (by omega) (by omega) (Or.inr ⟨j, by omega, eq.symm, rfl, rfl⟩)
      rcases hi with ⟨rfl, rfl, rfl⟩ | ⟨i, hij, rfl, rfl, rfl⟩
      · rw [if_neg (by rw [esz]; exact (hy.d hq).1.sm1), if_pos (by decide), f_X0_greatestBy_61_e, f_X9_looksUp_91_e, f_X9_looksUp_94_e, nI_1]
        exact take
      · obtain ⟨q', hq', eq', -, -, -, b1i, -, -, c2i, -⟩ := h.at hn (j := i) (by omega)
        have b1i' : ρ2 66 (nI i).toNatClampNeg = nI q' := by rw [nI_clamp (n := i) (by omega), b1i]
        have es2i : f_X9_sizeOf 62 (nI q') ρ2 = some (szS σ o i) := by
          rw [sizeOf_now hy2 hq', size_congr c2i]
          unfold szS
          rw [eq', nI_clamp (n := q') (by omega)]
        rw [if_neg (nI_n0 (k := i) (by omega)), if_pos jn, es2, ob_s, if_pos (inb_nI (k := i) (by omega) (by decide)), b1i', es2i, ob_s]
        by_cases hc : szS σ o j ≤ szS σ o i
        · rw [if_pos hc, if_pos hc, f_X0_greatestBy_61_e, f_X9_looksUp_94_e, nI_1]
          exact ih f1 f2 (j + 1) _ _ _ (by omega) (by omega) (by omega) (Or.inr ⟨i, by omega, rfl, rfl, rfl⟩)
        · rw [if_neg hc, if_neg hc, f_X0_greatestBy_61_e, f_X9_looksUp_91_e, f_X9_looksUp_94_e, nI_1]
          exact take
    · rw [if_neg hw, if_neg hw, f_X0_greatestBy_61_e, f_X9_looksUp_94_e, nI_1]
      refine ih f1 f2 (j + 1) _ _ _ (by omega) (by omega) (by omega) ?_
      rcases hi with hi | ⟨i, a, b⟩
      · exact Or.inl hi
      · exact Or.inr ⟨i, by omega, b⟩
/-- the news on a page -/
def newS (σ : St) (o pg : Nat → Int32) (p page : Int32) : Nat → Int32 := lf (fun j a => if pg j = page ∧ f_X1_isKnown (24 + (o j).toNatClampNeg) p σ = true ∧ ¬ f_X1_isKept (24 + (o j).toNatClampNeg) p (σ 21 3) σ = true then a ||| ((1 : Int32) <<< (o j &&& 31)) else a) (0 : Int32)
theorem new_s {σ : St} {o pg : Nat → Int32} {p page : Int32} {j : Nat} : newS σ o pg p page (j + 1) = if pg j = page ∧ f_X1_isKnown (24 + (o j).toNatClampNeg) p σ = true ∧ ¬ f_X1_isKept (24 + (o j).toNatClampNeg) p (σ 21 3) σ = true then newS σ o pg p page j ||| ((1 : Int32) <<< (o j &&& 31)) else newS σ o pg p page j := rfl
theorem new_none {σ : St} {o pg : Nat → Int32} {p page : Int32} : ∀ j : Nat, (∀ i : Nat, i < j → ¬ pg i = page) → newS σ o pg p page j = 0
  | 0, _ => rfl
  | j + 1, h => by rw [new_s, if_neg (fun q => h j (by omega) q.1), new_none j (fun i hi => h i (by omega))]
theorem known_congr {σ τ : St} {i : Nat} {p : Int32} (h : τ i = σ i) : f_X1_isKnown i p τ = f_X1_isKnown i p σ := by rw [known_c, known_c, h]
theorem news_c {σ ρ1 ρ2 : St} {n m : Nat} {o pg : Nat → Int32} {pc : Int32} (h : PR σ n m o pg pc ρ1 ρ2) (hy : YR σ 21 62 n) (p page : Int32) : f_X0_newsFor p page ρ1 = some (newS σ o pg p page m) := by
  have hn := hy.1
  have hm := h.1
  have h7 : ρ1 18 3 = nI m := h.2.2.2.2.2.2.1
  have e21 : ρ1 21 = σ 21 := h.2.2.2.2.1 _ (by decide) (by decide) (by decide)
  unfold f_X0_newsFor
  refine loop_r (fun f a k => f_X0_newsFor_5 p page ρ1 f a (nI k)) (newS σ o pg p page) m ?_ ?_ fu (fu_gt (by omega))
  · intro f j hj
    obtain ⟨q, hq, eq, ed, a1, a2, b1, b2, c1, c2, ht⟩ := h.at hn hj
    have a1' : ρ1 19 (nI j).toNatClampNeg = nI q := by rw [nI_clamp (n := j) (by omega), a1]
    have a2' : ρ1 20 (nI j).toNatClampNeg = pg j := by rw [nI_clamp (n := j) (by omega), a2]
    have jn : inb (nI j) 10 := inb_nI (by omega) (by decide)
    show f_X0_newsFor_5 p page ρ1 (f + 1) _ (nI j) = f_X0_newsFor_5 p page ρ1 f _ (nI (j + 1))
    rw [f_X0_newsFor_5_s, h7, if_neg (nI_ge hj (by omega)), pageIn_eq (j := j) (m := m) (by omega) h7 hj, ob_s, a2, deedIn_of ed hn (h.yr hy).1.2.1 hq, ob_s, oc_ss, ed, ob_s, known_congr c1, kept_congr c1, e21, new_s, eq, nI_clamp (n := q) (by omega)]
    by_cases hp : pg j = page
    · rw [if_pos hp]
      by_cases hk : f_X1_isKnown (24 + q) p σ = true
      · rw [if_pos hk]
        by_cases hc : f_X1_isKept (24 + q) p (σ 21 3) σ = true
        · rw [if_pos hc, f_X0_newsFor_77_e, nI_1, if_neg (fun z => z.2.2 hc)]
        · rw [if_neg hc, f_X0_newsFor_77_e, nI_1, if_pos ⟨hp, hk, hc⟩]
      · rw [if_neg hk, f_X0_newsFor_77_e, nI_1, if_neg (fun z => hk z.2.1)]
    · rw [if_neg hp, f_X0_newsFor_77_e, nI_1, if_neg (fun z => hp z.1)]
  · intro f
    show f_X0_newsFor_5 p page ρ1 (f + 1) _ (nI m) = _
    rw [f_X0_newsFor_5_s, h7, if_pos (nI_le (Nat.le_refl m) (by omega))]
theorem news_r {σ ρ1 ρ2 : St} {n m : Nat} {o pg : Nat → Int32} {pc : Int32} (h : PR σ n m o pg pc ρ1 ρ2) (hy : YR σ 21 62 n) (p x2 : Int32) {i : Nat} (hi : i < m) : f_X9_looksUp_126 p x2 fu (nI i) 0 0 ρ2 = some (newS σ o pg p (pg i) m, ρ2) := by
  have hn := hy.1
  have hm := h.1
  have h10 : ρ2 61 7 = nI m := h.2.2.2.2.2.2.2.2.2.1
  have hy2 := (h.yr hy).2
  have e21 : ρ2 21 = σ 21 := (h.2.2.2.2.2.1.1 21 (by decide) (by decide) (by decide)).trans (h.2.2.2.2.1 _ (by decide) (by decide) (by decide))
  have w1 : ρ2 67 (nI i).toNatClampNeg = pg i := by
    obtain ⟨q, hq, eq, ed, a1, a2, b1, b2, -⟩ := h.at hn hi
    rw [nI_clamp (n := i) (by omega), b2]
  refine loop_q (fun f a k => f_X9_looksUp_126 p x2 f (nI i) a (nI k) ρ2) (newS σ o pg p (pg i)) m (some (newS σ o pg p (pg i) m, ρ2)) ?_ ?_ fu (fu_gt (by omega))
  · intro f j hj
    obtain ⟨q, hq, eq, ed, a1, a2, b1, b2, c1, c2, ht⟩ := h.at hn hj
    have b1' : ρ2 66 (nI j).toNatClampNeg = nI q := by rw [nI_clamp (n := j) (by omega), b1]
    have b2' : ρ2 67 (nI j).toNatClampNeg = pg j := by rw [nI_clamp (n := j) (by omega), b2]
    have jn : inb (nI j) 10 := inb_nI (by omega) (by decide)
    show f_X9_looksUp_126 p x2 (f + 1) (nI i) _ (nI j) ρ2 = f_X9_looksUp_126 p x2 f (nI i) _ (nI (j + 1)) ρ2
    rw [f_X9_looksUp_126_s, h10, if_neg (nI_ge hj (by omega)), if_neg (nI_n0 (k := i) (by omega)), if_pos jn, if_pos (inb_nI (k := i) (by omega) (by decide)), b2', w1, if_pos jn, b1', wasThere_now hy2 hq, ob_s, if_pos jn, hasIt_now hy2 hq, ob_s, known_congr c2, kept_congr c2, e21, new_s, eq, nI_clamp (n := q) (by omega)]
    by_cases hp : pg j = pg i
    · rw [if_pos hp]
      by_cases hk : f_X1_isKnown (24 + q) p σ = true
      · rw [if_pos hk]
        by_cases hc : f_X1_isKept (24 + q) p (σ 21 3) σ = true
        · rw [if_pos hc, f_X9_looksUp_205_e, f_X9_looksUp_206_e, nI_1, if_neg (fun z => z.2.2 hc), or0]
        · rw [if_neg hc, if_pos jn, f_X9_looksUp_206_e, nI_1, if_pos ⟨hp, hk, hc⟩]
      · rw [if_neg hk, f_X9_looksUp_205_e, f_X9_looksUp_206_e, nI_1, if_neg (fun z => hk z.2.1), or0]
    · rw [if_neg hp, f_X9_looksUp_205_e, f_X9_looksUp_206_e, nI_1, if_neg (fun z => hp z.1), or0]
  · intro f
    show f_X9_looksUp_126 p x2 (f + 1) (nI i) _ (nI m) ρ2 = _
    rw [f_X9_looksUp_126_s, h10, if_pos (nI_le (Nat.le_refl m) (by omega))]
theorem news_r0 {ρ2 : St} {p x2 : Int32} : f_X9_looksUp_126 p x2 fu (-4) 0 0 ρ2 = some (0, ρ2) := by
  show f_X9_looksUp_126 p x2 (3999 + 1) (-4) 0 0 ρ2 = _
  rw [f_X9_looksUp_126_s]
  by_cases hc : ρ2 61 7 ≤ 0
  · rw [if_pos hc]
  · rw [if_neg hc, if_pos (by decide)]
theorem page_of {σ ρ1 ρ2 : St} {n m : Nat} {o pg : Nat → Int32} {pc : Int32} (h : PR σ n m o pg pc ρ1 ρ2) (hn : n ≤ 10) {i : Nat} (hi : i < m) : f_X0_pageOf (o i) ρ1 = some (pg i) := by
  have hm := h.1
  obtain ⟨r, r1, r2, r3⟩ := place_two h hn (o i) m fu fu 0 (by omega) (fu_gt (by omega)) (fu_gt (by omega))
  have r1' : f_X0_placeOf (o i) ρ1 = some r := r1
  obtain ⟨-, -, h3, -, -, -, h7, -, h9, -⟩ := h
  unfold f_X0_pageOf
  rcases r3 with ⟨-, r4⟩ | ⟨j, -, hj, rfl, ej⟩
  · exact absurd rfl (r4 i (by omega) hi)
  · have : j = i := by
      by_cases a : j < i
      · exact absurd ej (h3 j i a hi)
      · by_cases b : i < j
        · exact absurd ej.symm (h3 i j b hj)
        · omega
    subst this
    rw [r1', ob_s, pageIn_eq (j := j) (m := m) (by omega) h7 hj, ob_s, (h9 j hj).2]
theorem page_of0 {σ ρ1 ρ2 : St} {n m : Nat} {o pg : Nat → Int32} {pc : Int32} (h : PR σ n m o pg pc ρ1 ρ2) (hn : n ≤ 10) : f_X0_pageOf (-4) ρ1 = some (-4) := by
  have hm := h.1
  obtain ⟨r, r1, r2, r3⟩ := place_two h hn (-4) m fu fu 0 (by omega) (fu_gt (by omega)) (fu_gt (by omega))
  have r1' : f_X0_placeOf (-4) ρ1 = some r := r1
  unfold f_X0_pageOf
  rcases r3 with ⟨rfl, r4⟩ | ⟨j, -, hj, rfl, ej⟩
  · rw [r1', ob_s, pageIn_m4, ob_s]
  · exfalso
    obtain ⟨q, hq, eq, -⟩ := h.at hn hj
    rw [eq] at ej
    exact absurd (ej ▸ nI_n0 (k := q) (by omega)) (by decide)
theorem p_looksUp {σ : St} (h : Inv σ) (x x2 : Int32) : ∃ r σ1 σ2, f_X8_looksUp x x2 σ = some (r, σ1) ∧ f_X9_looksUp x x2 σ1 = some (r, σ2) ∧ Inv σ2 := by
  obtain ⟨n, hy⟩ := h.1
  have hn := hy.1
  unfold f_X8_looksUp f_X9_looksUp
  by_cases hx : isN x 5
  · by_cases hp : isN x2 2
    · obtain ⟨m, o, pg, pc, ρ1, ρ2, p1, p2, hq⟩ := both hy
      have hm := hq.1
      obtain ⟨v, w, g1, g2, g3⟩ := looks_two hq hy x x2 m fu fu 0 (-4) (-1) (-4) (by omega) (fu_gt (by omega)) (fu_gt (by omega)) (Or.inl ⟨rfl, rfl, rfl⟩)
      have g1' : f_X0_greatestBy x ρ1 = some v := g1
      rw [yes_if below5 hx, yes_if below2 hp, p1, ob_s, g1', ob_s]
      rcases g3 with ⟨rfl, rfl⟩ | ⟨i, hi, rfl, rfl⟩
      · rw [page_of0 hq hn, ob_s]
        by_cases h0 : x2 = 0
        · rw [if_pos h0]
          refine ⟨-4, ρ1, ρ2, rfl, ?_, (hq.inv h).2⟩
          rw [yes_if person_iff hx, yes_if isin1 hp, p2, ob_s]
          refine g2.trans ?_
          rw [if_pos h0, if_neg (by decide)]
        · rw [if_neg h0, news_c hq hy, ob_s]
          refine ⟨_, ρ1, ρ2, rfl, ?_, (hq.inv h).2⟩
          rw [yes_if person_iff hx, yes_if isin1 hp, p2, ob_s]
          refine g2.trans ?_
          rw [if_neg h0, news_r0, new_none]
          intro i hi q
          obtain ⟨c, hc, ec⟩ := hq.2.2.2.1 i hi
          rw [ec] at q
          exact absurd (q ▸ nI_n0 (k := c) (by omega)) (by decide)
      · rw [page_of hq hn hi, ob_s]
        have w1 : ρ2 67 (nI i).toNatClampNeg = pg i := by
          obtain ⟨q, hq', eq, ed, a1, a2, b1, b2, -⟩ := hq.at hn hi
          rw [nI_clamp (n := i) (by omega), b2]
        by_cases h0 : x2 = 0
        · rw [if_pos h0]
          refine ⟨_, ρ1, ρ2, rfl, ?_, (hq.inv h).2⟩
          rw [yes_if person_iff hx, yes_if isin1 hp, p2, ob_s]
          refine g2.trans ?_
          rw [if_pos h0, if_pos (nI_pos' (by omega)), if_pos (inb_nI (by omega) (by decide)), w1]
        · rw [if_neg h0, news_c hq hy, ob_s]
          refine ⟨_, ρ1, ρ2, rfl, ?_, (hq.inv h).2⟩
          rw [yes_if person_iff hx, yes_if isin1 hp, p2, ob_s]
          refine g2.trans ?_
          rw [if_neg h0, news_r hq hy x x2 hi]
    · rw [yes_if below5 hx, no_if below2 hp]
      refine ⟨_, _, _, rfl, ?_, h⟩
      rw [yes_if person_iff hx, no_if isin1 hp]
  · rw [no_if below5 hx]
    refine ⟨_, _, _, rfl, ?_, h⟩
    rw [no_if person_iff hx]
/-- uncut -/
def ucS (σ : St) (o pg : Nat → Int32) (z : Int32) : Nat → Int32 × Int32 := lf (fun j a => if pg j < z then (a.1, a.2 ||| ((1 : Int32) <<< (σ (24 + (o j).toNatClampNeg) 3 &&& 31))) else (a.1 ||| ((1 : Int32) <<< (o j &&& 31)), a.2)) ((0 : Int32), (0 : Int32))
theorem uc_0 {σ : St} {o pg : Nat → Int32} {z : Int32} : ucS σ o pg z 0 = ((0 : Int32), (0 : Int32)) := rfl
theorem uc_s {σ : St} {o pg : Nat → Int32} {z : Int32} {j : Nat} : ucS σ o pg z (j + 1) = if pg j < z then ((ucS σ o pg z j).1, (ucS σ o pg z j).2 ||| ((1 : Int32) <<< (σ (24 + (o j).toNatClampNeg) 3 &&& 31))) else ((ucS σ o pg z j).1 ||| ((1 : Int32) <<< (o j &&& 31)), (ucS σ o pg z j).2) := rfl
theorem uc_or : ∀ a : Nat, a < 32 → ∀ w : Nat, w < 5 → (∃ b : Nat, b < 32 ∧ nI a ||| ((1 : Int32) <<< (nI w &&& 31)) = nI b) ∧ ((31 : Int32) &&& (nI a ^^^ (-1 : Int32))) &&& (((1 : Int32) <<< (nI w &&& 31)) ^^^ (-1 : Int32)) = (31 : Int32) &&& ((nI a ||| ((1 : Int32) <<< (nI w &&& 31))) ^^^ (-1 : Int32)) := by decide +kernel
theorem deeds_c {σ ρ1 ρ2 : St} {n m : Nat} {o pg : Nat → Int32} {pc : Int32} (h : PR σ n m o pg pc ρ1 ρ2) (hn : n ≤ 10) (z : Int32) : f_X0_deedsFromPage z ρ1 = some (ucS σ o pg z m).1 := by
  have hm := h.1
  have h7 : ρ1 18 3 = nI m := h.2.2.2.2.2.2.1
  unfold f_X0_deedsFromPage
  refine loop_q (fun f (a : Int32 × Int32) k => f_X0_deedsFromPage_4 z ρ1 f a.1 (nI k)) (ucS σ o pg z) m (some (ucS σ o pg z m).1) ?_ ?_ fu (fu_gt (by omega))
  · intro f j hj
    obtain ⟨q, hq, eq, ed, a1, a2, b1, b2, c1, c2, ht⟩ := h.at hn hj
    have a1' : ρ1 19 (nI j).toNatClampNeg = nI q := by rw [nI_clamp (n := j) (by omega), a1]
    have a2' : ρ1 20 (nI j).toNatClampNeg = pg j := by rw [nI_clamp (n := j) (by omega), a2]
    have jn : inb (nI j) 10 := inb_nI (by omega) (by decide)
    show f_X0_deedsFromPage_4 z ρ1 (f + 1) _ (nI j) = f_X0_deedsFromPage_4 z ρ1 f (ucS σ o pg z (j + 1)).1 (nI (j + 1))
    rw [f_X0_deedsFromPage_4_s, h7, if_neg (nI_ge hj (by omega)), pageIn_eq (j := j) (m := m) (by omega) h7 hj, ob_s, a2, ed, ob_s, uc_s]
    by_cases hc : pg j < z
    · rw [if_pos hc, if_pos hc, f_X0_deedsFromPage_31_e, nI_1]
    · rw [if_neg hc, if_neg hc, f_X0_deedsFromPage_31_e, nI_1, eq]
  · intro f
    show f_X0_deedsFromPage_4 z ρ1 (f + 1) _ (nI m) = _
    rw [f_X0_deedsFromPage_4_s, h7, if_pos (nI_le (Nat.le_refl m) (by omega))]
theorem doers_c {σ ρ1 ρ2 : St} {n m : Nat} {o pg : Nat → Int32} {pc : Int32} (h : PR σ n m o pg pc ρ1 ρ2) (hy : YR σ 21 62 n) (z : Int32) : f_X0_doersAheadOfPage z ρ1 = some (ucS σ o pg z m).2 := by
  have hn := hy.1
  have hm := h.1
  have h7 : ρ1 18 3 = nI m := h.2.2.2.2.2.2.1
  unfold f_X0_doersAheadOfPage
  refine loop_q (fun f (a : Int32 × Int32) k => f_X0_doersAheadOfPage_4 z ρ1 f a.2 (nI k)) (ucS σ o pg z) m (some (ucS σ o pg z m).2) ?_ ?_ fu (fu_gt (by omega))
  · intro f j hj
    obtain ⟨q, hq, eq, ed, a1, a2, b1, b2, c1, c2, ht⟩ := h.at hn hj
    have a2' : ρ1 20 (nI j).toNatClampNeg = pg j := by rw [nI_clamp (n := j) (by omega), a2]
    have jn : inb (nI j) 10 := inb_nI (by omega) (by decide)
    show f_X0_doersAheadOfPage_4 z ρ1 (f + 1) _ (nI j) = f_X0_doersAheadOfPage_4 z ρ1 f (ucS σ o pg z (j + 1)).2 (nI (j + 1))
    rw [f_X0_doersAheadOfPage_4_s, h7, if_neg (nI_ge hj (by omega)), pageIn_eq (j := j) (m := m) (by omega) h7 hj, ob_s, a2, deedIn_of ed hn (h.yr hy).1.2.1 hq, ob_s, oc_ss, c1, uc_s, eq, nI_clamp (n := q) (by omega)]
    by_cases hc : pg j < z
    · rw [if_neg (fun q => absurd q (le_nlt.mpr hc)), if_pos hc, f_X0_doersAheadOfPage_49_e, nI_1]
    · rw [if_pos (Int32.not_lt.mp hc), if_neg hc, f_X0_doersAheadOfPage_49_e, nI_1, or0]
  · intro f
    show f_X0_doersAheadOfPage_4 z ρ1 (f + 1) _ (nI m) = _
    rw [f_X0_doersAheadOfPage_4_s, h7, if_pos (nI_le (Nat.le_refl m) (by omega))]
theorem uc_rng {σ : St} {n m : Nat} {o pg : Nat → Int32} {z : Int32} (hy : YR σ 21 62 n) (ho : ∀ j : Nat, j < m → ∃ q : Nat, q < n ∧ o j = nI q) : ∀ j : Nat, j ≤ m → ∃ a : Nat, a < 32 ∧ (ucS σ o pg z j).2 = nI a
  | 0, _ => ⟨0, by decide, rfl⟩
  | j + 1, hj => by
    have hn := hy.1
    obtain ⟨a, ha, ea⟩ := uc_rng (z := z) (pg := pg) hy ho j (by omega)
    obtain ⟨q, hq, eq⟩ := ho j (by omega)
    obtain ⟨_, _, d, w, s, _, _, _, hw, _, _, _, _, _, e3, -⟩ := (hy.d hq).1
    rw [uc_s]
    split
    · rw [eq, nI_clamp (n := q) (by omega), e3, ea]
      exact (uc_or a ha w hw).1
    · exact ⟨a, ha, ea⟩
theorem uncut_r {σ ρ1 ρ2 : St} {n m : Nat} {o pg : Nat → Int32} {pc : Int32} (h : PR σ n m o pg pc ρ1 ρ2) (hy : YR σ 21 62 n) (x x2 : Int32) : f_X9_uncut_34 x x2 fu 0 31 0 ρ2 = some (if x2 = 0 then (ucS σ o pg (pc - x) m).1 else (31 : Int32) &&& ((ucS σ o pg (pc - x) m).2 ^^^ (-1 : Int32)), ρ2) := by
  have hn := hy.1
  have hm := h.1
  have h10 : ρ2 61 7 = nI m := h.2.2.2.2.2.2.2.2.2.1
  have h11 : ρ2 61 8 = pc := h.2.2.2.2.2.2.2.2.2.2.1
  have hy2 := (h.yr hy).2
  have e0 : (31 : Int32) &&& ((0 : Int32) ^^^ (-1 : Int32)) = 31 := by decide
  suffices key : f_X9_uncut_34 x x2 fu (ucS σ o pg (pc - x) 0).1 ((31 : Int32) &&& ((ucS σ o pg (pc - x) 0).2 ^^^ (-1 : Int32))) (nI 0) ρ2 = some (if x2 = 0 then (ucS σ o pg (pc - x) m).1 else (31 : Int32) &&& ((ucS σ o pg (pc - x) m).2 ^^^ (-1 : Int32)), ρ2) by
    rw [uc_0, e0] at key
    exact key
  refine loop_q (fun f (a : Int32 × Int32) k => f_X9_uncut_34 x x2 f a.1 ((31 : Int32) &&& (a.2 ^^^ (-1 : Int32))) (nI k) ρ2) (ucS σ o pg (pc - x)) m (some (if x2 = 0 then (ucS σ o pg (pc - x) m).1 else (31 : Int32) &&& ((ucS σ o pg (pc - x) m).2 ^^^ (-1 : Int32)), ρ2)) ?_ ?_ fu (fu_gt (by omega))
  · intro f j hj
    obtain ⟨q, hq, eq, ed, a1, a2, b1, b2, c1, c2, ht⟩ := h.at hn hj
    have b1' : ρ2 66 (nI j).toNatClampNeg = nI q := by rw [nI_clamp (n := j) (by omega), b1]
    have b2' : ρ2 67 (nI j).toNatClampNeg = pg j := by rw [nI_clamp (n := j) (by omega), b2]
    have jn : inb (nI j) 10 := inb_nI (by omega) (by decide)
    have ew : ρ2 62 (f_X9_of (nI q) (3 : Int32)).toNatClampNeg = σ (24 + q) 3 := by rw [ofc3 (by omega), (hy2.d hq).2.2.2.2.1, c2]
    obtain ⟨a, ha, ea⟩ := uc_rng (z := pc - x) (pg := pg) hy (fun j hj => by
      obtain ⟨q, h1, h2, -⟩ := h.2.1 j hj
      exact ⟨q, h1, h2⟩) j (Nat.le_of_lt hj)
    obtain ⟨_, _, d, w, s, _, _, _, hw, _, _, _, _, _, e3, -⟩ := (hy.d hq).1
    show f_X9_uncut_34 x x2 (f + 1) _ _ (nI j) ρ2 = f_X9_uncut_34 x x2 f (ucS σ o pg (pc - x) (j + 1)).1 ((31 : Int32) &&& ((ucS σ o pg (pc - x) (j + 1)).2 ^^^ (-1 : Int32))) (nI (j + 1)) ρ2
    rw [f_X9_uncut_34_s, h10, h11, if_neg (nI_ge hj (by omega)), if_pos jn, b2', if_pos jn, b1', if_pos (ofi3 (by omega)), ew, if_pos jn, uc_s, eq, nI_clamp (n := q) (by omega)]
    by_cases hc : pg j < pc - x
    · rw [if_pos hc, if_pos hc, f_X9_uncut_99_e, nI_1, e3, ea, (uc_or a ha w hw).2]
    · rw [if_neg hc, if_neg hc, f_X9_uncut_99_e, nI_1]
  · intro f
    show f_X9_uncut_34 x x2 (f + 1) _ _ (nI m) ρ2 = _
    rw [f_X9_uncut_34_s, h10, if_pos (nI_le (Nat.le_refl m) (by omega))]
    by_cases h0 : x2 = 0
    · rw [if_pos h0, if_pos h0]
    · rw [if_neg h0, if_neg h0]
theorem p_uncut {σ : St} (h : Inv σ) (x x2 : Int32) : ∃ r σ1 σ2, f_X8_uncut x x2 σ = some (r, σ1) ∧ f_X9_uncut x x2 σ1 = some (r, σ2) ∧ Inv σ2 := by
  obtain ⟨n, hy⟩ := h.1
  have hn := hy.1
  unfold f_X8_uncut f_X9_uncut
  by_cases hx : isN x 10
  · by_cases hp : isN x2 2
    · obtain ⟨m, o, pg, pc, ρ1, ρ2, p1, p2, hq⟩ := both hy
      have h8 : ρ1 18 4 = pc := hq.2.2.2.2.2.2.2.1
      have er := uncut_r hq hy x x2
      rw [yes_if within9 hx, yes_if below2 hp, p1, ob_s, h8, deeds_c hq hn, doers_c hq hy, ob_s, ob_s]
      by_cases h0 : x2 = 0
      · rw [if_pos h0] at er ⊢
        refine ⟨_, ρ1, ρ2, rfl, ?_, (hq.inv h).2⟩
        rw [yes_if isin9 hx, yes_if isin1 hp, p2, ob_s]
        exact er
      · rw [if_neg h0] at er ⊢
        refine ⟨_, ρ1, ρ2, rfl, ?_, (hq.inv h).2⟩
        rw [yes_if isin9 hx, yes_if isin1 hp, p2, ob_s]
        exact er
    · rw [yes_if within9 hx, no_if below2 hp]
      refine ⟨_, _, _, rfl, ?_, h⟩
      rw [yes_if isin9 hx, no_if isin1 hp]
  · rw [no_if within9 hx]
    refine ⟨_, _, _, rfl, ?_, h⟩
    rw [no_if isin9 hx]
