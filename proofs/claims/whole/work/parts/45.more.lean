/-! PURE: deed, robin, quarrel, forgets -/
theorem last_n : ∀ a : Nat, a < 8 → ∀ b : Nat, b < 10 → (f_X4_lasting (nI a) (nI b) = nI (f_X4_lasting (nI a) (nI b)).toNatClampNeg ∧ (f_X4_lasting (nI a) (nI b)).toNatClampNeg < 400) ∧ f_X4_lastingOwn (nI a) (f_X4_lasting (nI a) (nI b)) = nI (f_X4_lastingOwn (nI a) (f_X4_lasting (nI a) (nI b))).toNatClampNeg ∧ (f_X4_lastingOwn (nI a) (f_X4_lasting (nI a) (nI b))).toNatClampNeg < 400 := by decide +kernel
theorem DOk.lr {σ : St} {i : Nat} (h : DOk σ i) : ∃ u v : Nat, u < 400 ∧ v < 400 ∧ σ i 5 = nI u ∧ σ i 6 = nI v := by
  obtain ⟨a, b, d, w, s, ha, hb, hd, hw, hs, ht, e0, e1, e2, e3, e4, e5, e6⟩ := h
  obtain ⟨⟨q1, q2⟩, q3, q4⟩ := last_n a ha b hb
  exact ⟨_, _, q2, q4, e5.trans q1, e6.trans q3⟩
theorem eight {j : Nat} (h : j < 8) : j = 0 ∨ j = 1 ∨ j = 2 ∨ j = 3 ∨ j = 4 ∨ j = 5 ∨ j = 6 ∨ j = 7 := by omega
theorem notN {x : Int32} {n : Nat} (h : ¬ isN x n) (j : Nat) (hj : j < n) : ¬ x = nI j := fun e => h ⟨j, hj, e⟩
theorem p_deed {σ : St} (h : Inv σ) (x w : Int32) : ∃ r, f_X8_deed x w σ = some r ∧ f_X9_deed x w σ = some r := by
  obtain ⟨n, hy⟩ := h.1
  unfold f_X8_deed f_X9_deed
  rcases deed_two hy x with ⟨k, hk, rfl, e1, e2⟩ | ⟨hx, e1, e2⟩
  · rw [e1, e2]
    have hk10 := Nat.lt_of_lt_of_le hk hy.1
    obtain ⟨hd, r0, r1, r2, r3, r4⟩ := hy.d hk
    by_cases hw : isN w 8
    · rw [ob_s, ob_s, if_pos rfl, yes_if isin7 hw, if_pos (ofi0 hk10), if_pos (ofi1 hk10), ofc0 hk10, ofc1 hk10, r0, r1, hd.last.1, hd.last.2, hd.size]
      obtain ⟨j, hj, rfl⟩ := hw
      rcases eight hj with rfl | rfl | rfl | rfl | rfl | rfl | rfl | rfl
      · exact ⟨_, rfl, by rw [if_neg (by decide), if_pos (of_in 0 hk10 (by decide)), of_cl 0 hk10 (by decide), r0]⟩
      · exact ⟨_, rfl, by rw [if_neg (by decide), if_pos (of_in 1 hk10 (by decide)), of_cl 1 hk10 (by decide), r1]⟩
      · exact ⟨_, rfl, by rw [if_neg (by decide), if_pos (of_in 2 hk10 (by decide)), of_cl 2 hk10 (by decide), r2]⟩
      · exact ⟨_, rfl, by rw [if_neg (by decide), if_pos (of_in 3 hk10 (by decide)), of_cl 3 hk10 (by decide), r3]⟩
      · exact ⟨_, rfl, by rw [if_neg (by decide), if_pos (of_in 4 hk10 (by decide)), of_cl 4 hk10 (by decide), r4]⟩
      · exact ⟨_, rfl, by rw [if_pos (by decide), if_pos (by decide)]⟩
      · exact ⟨_, rfl, by rw [if_pos (by decide), if_neg (by decide), if_pos (by decide)]⟩
      · exact ⟨_, rfl, by rw [if_pos (by decide), if_neg (by decide), if_neg (by decide)]⟩
    · rw [ob_s, ob_s, if_pos rfl, no_if isin7 hw]
      refine ⟨-1, ?_, rfl⟩
      show (if w = (0 : Int32) then _ else _) = _
      rw [if_neg (show ¬ w = (0 : Int32) from notN hw 0 (by decide)), if_neg (show ¬ w = (1 : Int32) from notN hw 1 (by decide)), if_neg (show ¬ w = (2 : Int32) from notN hw 2 (by decide)), if_neg (show ¬ w = (3 : Int32) from notN hw 3 (by decide)), if_neg (show ¬ w = (4 : Int32) from notN hw 4 (by decide)), if_neg (show ¬ w = (5 : Int32) from notN hw 5 (by decide)), if_neg (show ¬ w = (6 : Int32) from notN hw 6 (by decide)), if_neg (show ¬ w = (7 : Int32) from notN hw 7 (by decide))]
  · rw [e1, e2]
    exact ⟨_, rfl, rfl⟩
theorem lost_n : ∀ s : Nat, s < 32 → ∀ v : Nat, v < 32 → bitsS (nI s &&& (nI v ^^^ (-1 : Int32))) = f_J6_bitCount_0f7a4 (nI s &&& (nI v ^^^ (-1 : Int32))) ∧ (0 : Int32) ≤ f_J6_bitCount_0f7a4 (nI s &&& (nI v ^^^ (-1 : Int32))) := by decide +kernel
def lostS (σ : St) (k : Nat) : Int32 := f_J6_bitCount_0f7a4 (σ (21 + 1 + 2 + k) 4 &&& (f_X1_keepers (21 + 1 + 2 + k) (σ 21 3) σ ^^^ (-1 : Int32)))
theorem lost_two {σ : St} {n k : Nat} (hy : YR σ 21 62 n) (hk : k < n) : bitsS (σ (24 + k) 4 &&& (f_X1_keepers (24 + k) (σ 21 3) σ ^^^ (-1 : Int32))) = lostS σ k ∧ (0 : Int32) ≤ lostS σ k := by
  obtain ⟨v, hv, ev⟩ := keepers_rng (t := σ 21 3) (hy.d hk).1
  obtain ⟨a, b, d, w, s, ha, hb, hd, hw, hs, ht, e0, e1, e2, e3, e4, -⟩ := (hy.d hk).1
  have e4' : σ (21 + 1 + 2 + k) 4 = nI s := e4
  have ev' : f_X1_keepers (21 + 1 + 2 + k) (σ 21 3) σ = nI v := ev
  unfold lostS
  rw [e4, ev]
  exact lost_n s hs v hv
/-- robin's chain: the best so far, and how many -/
def robS (σ : St) (p : Int32) : Nat → Int32 × Int32 := lf (fun k a => if toldS σ 21 k = true ∧ σ (21 + 1 + 2 + k) 3 = p ∧ a.2 < lostS σ k then (nI k, lostS σ k) else a) ((-4 : Int32), (0 : Int32))
theorem robS_s {σ : St} {p : Int32} {k : Nat} : robS σ p (k + 1) = if toldS σ 21 k = true ∧ σ (21 + 1 + 2 + k) 3 = p ∧ (robS σ p k).2 < lostS σ k then (nI k, lostS σ k) else robS σ p k := rfl
theorem le_nlt {a b : Int32} : ¬ a ≤ b ↔ b < a := Int32.not_le
theorem robS_0 {σ : St} {n : Nat} (hy : YR σ 21 62 n) (p : Int32) : ∀ k, k ≤ n → (0 : Int32) ≤ (robS σ p k).2
  | 0, _ => by show (0 : Int32) ≤ 0; decide
  | k + 1, h => by
    rw [robS_s]
    split
    · exact (lost_two hy (by omega)).2
    · exact robS_0 hy p k (by omega)
theorem lost_at {σ : St} {k : Nat} : f_X1_watchersLost (21 + 1 + 2 + k) (σ 21 3) σ = lostS σ k := rfl
theorem robin_c {σ : St} {n : Nat} (hy : YR σ 21 62 n) (p : Int32) : f_X8_robin_18 p σ fu (-4) 0 0 = some (robS σ p n).1 := by
  have hn := hy.1
  refine loop_q (fun f (a : Int32 × Int32) k => f_X8_robin_18 p σ f a.1 a.2 (nI k)) (robS σ p) n (some (robS σ p n).1) ?_ ?_ fu (fu_gt (by omega))
  · intro f k hk
    generalize ea : robS σ p k = a
    have h0 : (0 : Int32) ≤ a.2 := ea ▸ robS_0 hy p k (by omega)
    show f_X8_robin_18 p σ (f + 1) a.1 a.2 (nI k) = f_X8_robin_18 p σ f (robS σ p (k + 1)).1 (robS σ p (k + 1)).2 (nI (k + 1))
    rw [f_X8_robin_18_s, robS_s, ea, ← nI_1]
    by_cases ht : toldS σ 21 k = true
    · rw [toldAt_t hn hy.2.1 hk ht, hy.2.1, if_neg (nI_ge hk (by omega)), ob_s, oc_ss]
      by_cases hw : σ (21 + 1 + 2 + k) 3 = p
      · rw [if_pos hw, lost_at, f_X8_robin_71_e]
        by_cases hc : lostS σ k ≤ a.2
        · rw [if_pos hc, f_X8_robin_85_e, if_neg (fun q => absurd hc (le_nlt.mpr q.2.2))]
        · rw [if_neg hc, f_X8_robin_85_e, if_pos ⟨ht, hw, le_nlt.mp hc⟩]
      · rw [if_neg hw, f_X8_robin_70_e, f_X8_robin_71_e, if_pos h0, f_X8_robin_85_e, if_neg (fun q => hw q.2.1)]
    · rw [toldAt_f hn hy.2.1 hk ht, hy.2.1, if_neg (nI_ge hk (by omega)), ob_s, oc_nn, f_X8_robin_70_e, f_X8_robin_71_e, if_pos h0, f_X8_robin_85_e, if_neg (fun q => ht q.1)]
  · intro f
    show f_X8_robin_18 p σ (f + 1) _ _ (nI n) = _
    rw [f_X8_robin_18_s, hy.2.1, if_pos (nI_le (Nat.le_refl n) (by omega))]
theorem robin_r {σ : St} {n : Nat} (hy : YR σ 21 62 n) (p : Int32) : f_X9_robin_17 p σ fu (-4) 0 0 = some (robS σ p n).1 := by
  have hn := hy.1
  refine loop_q (fun f (a : Int32 × Int32) k => f_X9_robin_17 p σ f a.1 a.2 (nI k)) (robS σ p) n (some (robS σ p n).1) ?_ ?_ fu (fu_gt (by omega))
  · intro f k hk
    have hk10 := Nat.lt_of_lt_of_le hk hy.1
    generalize ea : robS σ p k = a
    show f_X9_robin_17 p σ (f + 1) a.1 a.2 (nI k) = f_X9_robin_17 p σ f (robS σ p (k + 1)).1 (robS σ p (k + 1)).2 (nI (k + 1))
    rw [f_X9_robin_17_s, hy.2.2.1, if_neg (nI_ge hk (by omega)), if_pos (ofi4 hk10), whoHas_now hy hk, ob_s, ofc4 hk10, (hy.d hk).2.2.2.2.2, bits_eq, (lost_two hy hk).1, ob_s, told_rS hy hk, ob_s, if_pos (ofi3 hk10), ofc3 hk10, (hy.d hk).2.2.2.2.1, robS_s, ea, ← nI_1]
    by_cases ht : toldS σ 21 k = true
    · rw [if_pos ht]
      by_cases hw : σ (24 + k) 3 = p
      · rw [if_pos hw]
        by_cases hc : a.2 < lostS σ k
        · rw [if_pos hc, f_X9_robin_98_e, if_pos ⟨ht, hw, hc⟩]
        · rw [if_neg hc, f_X9_robin_98_e, if_neg (fun q => hc q.2.2)]
      · rw [if_neg hw, f_X9_robin_98_e, if_neg (fun q => hw q.2.1)]
    · rw [if_neg ht, f_X9_robin_98_e, if_neg (fun q => ht q.1)]
  · intro f
    show f_X9_robin_17 p σ (f + 1) _ _ (nI n) = _
    rw [f_X9_robin_17_s, hy.2.2.1, if_pos (nI_le (Nat.le_refl n) (by omega))]
theorem p_robin {σ : St} (h : Inv σ) (p : Int32) : ∃ r, f_X8_robin p σ = some r ∧ f_X9_robin p σ = some r := by
  obtain ⟨n, hy⟩ := h.1
  unfold f_X8_robin f_X9_robin
  by_cases hp : isN p 5
  · rw [yes_if below5 hp, yes_if person_iff hp]
    exact ⟨_, robin_c hy p, robin_r hy p⟩
  · rw [no_if below5 hp, no_if person_iff hp]
    exact ⟨_, rfl, rfl⟩
/-- matters between two -/
def matS (σ : St) (p q : Int32) (k : Nat) : Int32 := if f_X1_isKnown (21 + 1 + 2 + k) p σ = true ∧ f_X1_isKnown (21 + 1 + 2 + k) q σ = true ∧ ¬ b2i (f_X1_isKept (21 + 1 + 2 + k) p (σ 21 3) σ) = b2i (f_X1_isKept (21 + 1 + 2 + k) q (σ 21 3) σ) then 1 else 0
theorem matter_iff {σ : St} {p q t : Int32} {i : Nat} : f_X1_isMatterBetween i p q t σ = true ↔ f_X1_isKnown i p σ = true ∧ f_X1_isKnown i q σ = true ∧ ¬ b2i (f_X1_isKept i p t σ) = b2i (f_X1_isKept i q t σ) := by
  unfold f_X1_isMatterBetween
  by_cases h1 : f_X1_isKnown i p σ = true
  · rw [if_pos h1]
    by_cases h2 : f_X1_isKnown i q σ = true
    · rw [if_pos h2]
      by_cases h3 : b2i (f_X1_isKept i p t σ) = b2i (f_X1_isKept i q t σ)
      · rw [if_pos h3]
        exact ⟨fun h => (by cases h), fun h => absurd h3 h.2.2⟩
      · rw [if_neg h3]
        exact ⟨fun _ => ⟨h1, h2, h3⟩, fun _ => rfl⟩
    · rw [if_neg h2]
      exact ⟨fun h => (by cases h), fun h => absurd h.2.1 h2⟩
  · rw [if_neg h1]
    exact ⟨fun h => (by cases h), fun h => absurd h.1 h1⟩
theorem told_no {σ : St} {y k : Nat} (h : ¬ toldS σ y k = true) : σ y 3 < σ (y + 1 + 2 + k) 2 := Classical.byContradiction fun z => h (by unfold toldS; simp [z])
theorem mat_no {σ : St} {p q : Int32} {k : Nat} (h : ¬ toldS σ 21 k = true) : matS σ p q k = 0 := by
  have hc := told_no h
  have e : ∀ r : Int32, f_X1_isKept (21 + 1 + 2 + k) r (σ 21 3) σ = false := fun r => by rw [kept_c]; unfold keptS; rw [if_pos hc]
  unfold matS
  exact if_neg (fun z => z.2.2 (by rw [e p, e q]))
theorem matters_c {σ : St} {n : Nat} {p q : Int32} (hn : n ≤ 10) (h : σ 21 2 = nI n) : f_X7_mattersBetween 21 p q σ = some (sumS (matS σ p q) n) := by
  unfold f_X7_mattersBetween
  refine loop_r (fun f a k => f_X7_mattersBetween_5 21 p q σ f a (nI k)) (sumS _) n ?_ ?_ fu (fu_gt (by omega))
  · intro f k hk
    show f_X7_mattersBetween_5 21 p q σ (f + 1) _ (nI k) = f_X7_mattersBetween_5 21 p q σ f _ (nI (k + 1))
    rw [f_X7_mattersBetween_5_s, sumS_s]
    by_cases ht : toldS σ 21 k = true
    · rw [toldAt_t hn h hk ht, h, if_neg (nI_ge hk (by omega)), ob_s, oc_ss]
      by_cases hm : f_X1_isMatterBetween (21 + 1 + 2 + k) p q (σ 21 3) σ = true
      · rw [if_pos hm, f_X7_mattersBetween_47_e, nI_1, show matS σ p q k = 1 from if_pos (matter_iff.mp hm)]
      · rw [if_neg hm, f_X7_mattersBetween_46_e, f_X7_mattersBetween_47_e, nI_1, show matS σ p q k = 0 from if_neg (fun z => hm (matter_iff.mpr z))]
    · rw [toldAt_f hn h hk ht, h, if_neg (nI_ge hk (by omega)), ob_s, oc_nn, f_X7_mattersBetween_46_e, f_X7_mattersBetween_47_e, nI_1, mat_no ht]
  · intro f
    show f_X7_mattersBetween_5 21 p q σ (f + 1) _ (nI n) = _
    rw [f_X7_mattersBetween_5_s, h, if_pos (nI_le (Nat.le_refl n) (by omega))]
theorem wasThere_now {σ : St} {n k : Nat} {p : Int32} (hy : YR σ 21 62 n) (hk : k < n) : f_X9_wasThere 62 p (nI k) σ = some (f_X1_isKnown (24 + k) p σ) := wasThere_rel (Nat.lt_of_lt_of_le hk hy.1) (hy.d hk).2
theorem hasIt_now {σ : St} {n k : Nat} {p : Int32} (hy : YR σ 21 62 n) (hk : k < n) : f_X9_hasIt 62 p (nI k) σ = some (f_X1_isKept (24 + k) p (σ 21 3) σ) := by
  have e := hasIt_rel (p := p) (Nat.lt_of_lt_of_le hk hy.1) (hy.d hk).1 (hy.d hk).2
  rw [hy.2.2.2.2.1] at e
  exact e
theorem matters_r {σ : St} {n : Nat} (hy : YR σ 21 62 n) (rec7 : Int32 → Int32 → Int32 → Option Int32) (rec17 : Int32 → Int32 → Int32 → Int32 → Option Int32) (v1 v2 p q : Int32) : f_X9_quarrel_29 σ rec7 rec17 fu v1 v2 p q 0 0 = if v2 < sumS (matS σ p q) n then rec17 ((10 : Int32) * p + q) (sumS (matS σ p q) n) p (q + 1) else rec17 v1 v2 p (q + 1) := by
  have hn := hy.1
  refine loop_q (fun f a k => f_X9_quarrel_29 σ rec7 rec17 f v1 v2 p q a (nI k)) (sumS (matS σ p q)) n _ ?_ ?_ fu (fu_gt (by omega))
  · intro f k hk
    show f_X9_quarrel_29 σ rec7 rec17 (f + 1) v1 v2 p q _ (nI k) = f_X9_quarrel_29 σ rec7 rec17 f v1 v2 p q _ (nI (k + 1))
    rw [f_X9_quarrel_29_s, hy.2.2.1, if_neg (nI_ge hk (by omega)), wasThere_now hy hk, ob_s, wasThere_now hy hk, ob_s, hasIt_now hy hk, ob_s, hasIt_now hy hk, ob_s, sumS_s]
    unfold matS
    by_cases h1 : f_X1_isKnown (24 + k) p σ = true
    · rw [if_pos h1]
      by_cases h2 : f_X1_isKnown (24 + k) q σ = true
      · rw [if_pos h2]
        by_cases h3 : b2i (f_X1_isKept (24 + k) p (σ 21 3) σ) = b2i (f_X1_isKept (24 + k) q (σ 21 3) σ)
        · rw [if_pos h3, f_X9_quarrel_97_e, f_X9_quarrel_98_e, nI_1, if_neg (fun z => z.2.2 h3)]
        · rw [if_neg h3, f_X9_quarrel_98_e, nI_1, if_pos ⟨h1, h2, h3⟩]
      · rw [if_neg h2, f_X9_quarrel_97_e, f_X9_quarrel_98_e, nI_1, if_neg (fun z => h2 z.2.1)]
    · rw [if_neg h1, f_X9_quarrel_97_e, f_X9_quarrel_98_e, nI_1, if_neg (fun z => h1 z.1)]
  · intro f
    show f_X9_quarrel_29 σ rec7 rec17 (f + 1) v1 v2 p q _ (nI n) = _
    rw [f_X9_quarrel_29_s, hy.2.2.1, if_pos (nI_le (Nat.le_refl n) (by omega))]
    rfl
theorem quarrel_17 {σ : St} {n : Nat} (hy : YR σ 21 62 n) (rec1 rec2 : Int32 → Int32 → Int32 → Option Int32) (p : Nat) (hr : ∀ w1 w2, ∃ r, rec1 w1 w2 (nI (p + 1)) = some r ∧ rec2 w1 w2 (nI (p + 1)) = some r) : ∀ (d f1 f2 q : Nat) (v1 v2 : Int32), q + d = 5 → d < f1 → d < f2 → ∃ r, f_X8_quarrel_17 σ rec1 f1 v1 v2 (nI p) (nI q) = some r ∧ f_X9_quarrel_17 σ rec2 f2 v1 v2 (nI p) (nI q) = some r := by
  intro d
  induction d with
  | zero =>
    intro f1 f2 q v1 v2 hq h1 h2
    obtain ⟨f1, rfl⟩ : ∃ g, f1 = g + 1 := ⟨f1 - 1, by omega⟩
    obtain ⟨f2, rfl⟩ : ∃ g, f2 = g + 1 := ⟨f2 - 1, by omega⟩
    have : q = 5 := by omega
    subst this
    rw [f_X8_quarrel_17_s, f_X9_quarrel_17_s, if_pos le5, if_pos le5, nI_1]
    exact hr v1 v2
  | succ d ih =>
    intro f1 f2 q v1 v2 hq h1 h2
    obtain ⟨f1, rfl⟩ : ∃ g, f1 = g + 1 := ⟨f1 - 1, by omega⟩
    obtain ⟨f2, rfl⟩ : ∃ g, f2 = g + 1 := ⟨f2 - 1, by omega⟩
    rw [f_X8_quarrel_17_s, f_X9_quarrel_17_s, if_neg (ge5 (k := q) (by omega)), if_neg (ge5 (k := q) (by omega)), matters_c hy.1 hy.2.1, ob_s, matters_r hy]
    by_cases hc : sumS (matS σ (nI p) (nI q)) n ≤ v2
    · rw [if_pos hc, if_neg (fun z => absurd hc (le_nlt.mpr z)), f_X8_quarrel_52_e, nI_1]
      exact ih f1 f2 (q + 1) _ _ (by omega) (by omega) (by omega)
    · rw [if_neg hc, if_pos (le_nlt.mp hc), f_X8_quarrel_52_e, nI_1]
      exact ih f1 f2 (q + 1) _ _ (by omega) (by omega) (by omega)
theorem quarrel_7 {σ : St} {n : Nat} (hy : YR σ 21 62 n) : ∀ (d f1 f2 p : Nat) (v1 v2 : Int32), p + d = 5 → d < f1 → d < f2 → ∃ r, f_X8_quarrel_7 σ f1 v1 v2 (nI p) = some r ∧ f_X9_quarrel_7 σ f2 v1 v2 (nI p) = some r := by
  intro d
  induction d with
  | zero =>
    intro f1 f2 p v1 v2 hq h1 h2
    obtain ⟨f1, rfl⟩ : ∃ g, f1 = g + 1 := ⟨f1 - 1, by omega⟩
    obtain ⟨f2, rfl⟩ : ∃ g, f2 = g + 1 := ⟨f2 - 1, by omega⟩
    have : p = 5 := by omega
    subst this
    rw [f_X8_quarrel_7_s, f_X9_quarrel_7_s, if_pos le5, if_pos le5]
    exact ⟨_, rfl, rfl⟩
  | succ d ih =>
    intro f1 f2 p v1 v2 hq h1 h2
    obtain ⟨f1, rfl⟩ : ∃ g, f1 = g + 1 := ⟨f1 - 1, by omega⟩
    obtain ⟨f2, rfl⟩ : ∃ g, f2 = g + 1 := ⟨f2 - 1, by omega⟩
    rw [f_X8_quarrel_7_s, f_X9_quarrel_7_s, if_neg (ge5 (k := p) (by omega)), if_neg (ge5 (k := p) (by omega)), nI_1]
    exact quarrel_17 hy _ _ p (fun w1 w2 => ih f1 f2 (p + 1) w1 w2 (by omega) (by omega) (by omega)) (5 - (p + 1)) fu fu (p + 1) v1 v2 (by omega) (fu_gt (by omega)) (fu_gt (by omega))
theorem p_quarrel {σ : St} (h : Inv σ) : ∃ r, f_X8_quarrel σ = some r ∧ f_X9_quarrel σ = some r := by
  obtain ⟨n, hy⟩ := h.1
  exact quarrel_7 hy 5 fu fu 0 (-4) 0 (by omega) (fu_gt (by decide)) (fu_gt (by decide))
