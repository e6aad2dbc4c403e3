/-! PURE: forgotten, only, count, guilty, price, deed -/
theorem loop_r {α : Type} (L : Nat → α → Nat → Option α) (A : Nat → α) (n : Nat) (hs : ∀ f k, k < n → L (f + 1) (A k) k = L f (A (k + 1)) (k + 1)) (he : ∀ f, L (f + 1) (A n) n = some (A n)) (f : Nat) (hf : n < f) : L f (A 0) 0 = some (A n) := loop_q L A n _ hs he f hf
def toldS (σ : St) (y k : Nat) : Bool := !decide (σ y 3 < σ (y + 1 + 2 + k) 2)
def sumS (g : Nat → Int32) : Nat → Int32 := lf (fun k a => a + g k) (0 : Int32)
theorem sumS_s {g : Nat → Int32} {n : Nat} : sumS g (n + 1) = sumS g n + g n := rfl
theorem add0 (a : Int32) : a + 0 = a := by simp
theorem sumS_0 {g : Nat → Int32} {n : Nat} (h : g n = 0) : sumS g (n + 1) = sumS g n := by rw [sumS_s, h, add0]
theorem sumS_congr {g h : Nat → Int32} : ∀ {n : Nat}, (∀ k, k < n → g k = h k) → sumS g n = sumS h n
  | 0, _ => rfl
  | n + 1, e => by rw [sumS_s, sumS_s, sumS_congr (n := n) (fun k hk => e k (by omega)), e n (by omega)]
theorem toldAt_t {y n k : Nat} {σ : St} (hn : n ≤ 10) (h : σ y 2 = nI n) (hk : k < n) (ht : toldS σ y k = true) : f_X7_toldAt y (nI k) σ = some (some (y + 1 + 2 + k)) := by
  unfold f_X7_toldAt
  rw [deedAt_y hn h hk, ob_s, oc_ss]
  exact if_neg (fun q => by unfold toldS at ht; simp [q] at ht)
theorem toldAt_f {y n k : Nat} {σ : St} (hn : n ≤ 10) (h : σ y 2 = nI n) (hk : k < n) (ht : ¬ toldS σ y k = true) : f_X7_toldAt y (nI k) σ = some none := by
  unfold f_X7_toldAt
  rw [deedAt_y hn h hk, ob_s, oc_ss]
  refine if_pos (Classical.byContradiction fun q => ht ?_)
  unfold toldS
  simp [q]
theorem told_rS {n k : Nat} {σ : St} (hy : YR σ 21 62 n) (hk : k < n) : f_X9_isTold 62 (nI k) σ = some (toldS σ 21 k) := by
  rw [told_r (Nat.lt_of_lt_of_le hk hy.1), hy.2.2.2.2.1, (hy.d hk).2.2.2.1]
  rfl
def keepN (w s : Nat) (b1 b2 : Bool) : Nat := if b2 = true then (if b1 = true then 2 ^ w else 0) ||| s else (if b1 = true then 2 ^ w else 0)
theorem keepN_eq : ∀ w : Nat, w < 5 → ∀ s : Nat, s < 32 → ∀ b1 b2 : Bool, keepA (nI w) (nI s) b1 b2 = nI (keepN w s b1 b2) ∧ keepN w s b1 b2 < 32 := by decide +kernel
theorem keepers_rng {σ : St} {i : Nat} {t : Int32} (h : DOk σ i) : ∃ v : Nat, v < 32 ∧ f_X1_keepers i t σ = nI v := by
  obtain ⟨a, b, d, w, s, ha, hb, hd, hw, hs, ht, e0, e1, e2, e3, e4, -⟩ := h
  unfold f_X1_keepers
  by_cases hc : t < σ i 2
  · rw [if_pos hc]; exact ⟨0, by decide, rfl⟩
  · rw [if_neg hc, keepers_c, e3, e4]
    exact ⟨_, (keepN_eq w hw s hs _ _).2, (keepN_eq w hw s hs _ _).1⟩
theorem pop_0 : ∀ v : Nat, v < 32 → (f_J6_bitCount_0f7a4 (nI v) = (0 : Int32) ↔ nI v = (0 : Int32)) := by decide +kernel
theorem pop_bits {v : Nat} {σ : St} (hv : v < 1024) : f_X9_bits (nI v) σ = some (f_J6_bitCount_0f7a4 (nI v)) := by rw [bits_eq, bits_pop v hv]
theorem keptBySoMany_eq {y n : Nat} {m : Int32} {σ : St} (hn : n ≤ 10) (h : σ y 2 = nI n) : f_X7_keptBySoMany y m σ = some (maskS (fun k => toldS σ y k && decide (f_J6_bitCount_0f7a4 (f_X1_keepers (y + 1 + 2 + k) (σ y 3) σ) = m)) n) := by
  unfold f_X7_keptBySoMany
  refine loop_r (fun f a k => f_X7_keptBySoMany_4 y m σ f a (nI k)) (maskS _) n ?_ ?_ fu (fu_gt (by omega))
  · intro f k hk
    show f_X7_keptBySoMany_4 y m σ (f + 1) _ (nI k) = f_X7_keptBySoMany_4 y m σ f _ (nI (k + 1))
    rw [f_X7_keptBySoMany_4_s]
    by_cases ht : toldS σ y k = true
    · rw [toldAt_t hn h hk ht, h, if_neg (nI_ge hk (by omega)), ob_s, oc_ss]
      by_cases hc : f_J6_bitCount_0f7a4 (f_X1_keepers (y + 1 + 2 + k) (σ y 3) σ) = m
      · rw [if_pos hc, f_X7_keptBySoMany_46_e, nI_1, maskS_t (by simp [ht, hc])]
      · rw [if_neg hc, f_X7_keptBySoMany_46_e, nI_1, maskS_f (by simp [hc])]
    · rw [toldAt_f hn h hk ht, h, if_neg (nI_ge hk (by omega)), ob_s, oc_nn, f_X7_keptBySoMany_46_e, nI_1, maskS_f (by simp [ht])]
  · intro f
    show f_X7_keptBySoMany_4 y m σ (f + 1) _ (nI n) = _
    rw [f_X7_keptBySoMany_4_s, h, if_pos (nI_le (Nat.le_refl n) (by omega))]
theorem whoHas_now {σ : St} {n k : Nat} (hy : YR σ 21 62 n) (hk : k < n) : f_X9_whoHas 62 (nI k) σ = some (f_X1_keepers (24 + k) (σ 21 3) σ) := by
  have e := whoHas_rel (Nat.lt_of_lt_of_le hk hy.1) (hy.d hk).1 (hy.d hk).2
  rw [hy.2.2.2.2.1] at e
  exact e
theorem p_forgotten {σ : St} (h : Inv σ) : ∃ r, f_X8_forgotten σ = some r ∧ f_X9_forgotten σ = some r := by
  obtain ⟨n, hy⟩ := h.1
  unfold f_X8_forgotten f_X9_forgotten
  rw [keptBySoMany_eq hy.1 hy.2.1, ob_s]
  refine ⟨_, rfl, ?_⟩
  refine loop_r (fun f a k => f_X9_forgotten_4 σ f a (nI k)) (maskS _) n ?_ ?_ fu (fu_gt (by have := hy.1; omega))
  · intro f k hk
    have hn := hy.1
    have hk10 := Nat.lt_of_lt_of_le hk hy.1
    obtain ⟨v, hv, ev⟩ := keepers_rng (t := σ 21 3) (hy.d hk).1
    show f_X9_forgotten_4 σ (f + 1) _ (nI k) = f_X9_forgotten_4 σ f _ (nI (k + 1))
    rw [f_X9_forgotten_4_s, hy.2.2.1, if_neg (nI_ge hk (by omega)), told_rS hy hk, ob_s, whoHas_now hy hk, ob_s]
    by_cases ht : toldS σ 21 k = true
    · rw [if_pos ht, maskS_s]
      have ev' : f_X1_keepers (21 + 1 + 2 + k) (σ 21 3) σ = nI v := ev
      rw [ev]
      by_cases hc : nI v = (0 : Int32)
      · rw [if_pos hc, f_X9_forgotten_44_e, nI_1, if_pos (by simp [ht, (pop_0 v hv).mpr hc])]
      · rw [if_neg hc, f_X9_forgotten_43_e, f_X9_forgotten_44_e, nI_1, if_neg (by simp [mt (pop_0 v hv).mp hc])]
    · rw [if_neg ht, f_X9_forgotten_43_e, f_X9_forgotten_44_e, nI_1, maskS_s, if_neg (by simp [ht])]
  · intro f
    show f_X9_forgotten_4 σ (f + 1) _ (nI n) = _
    rw [f_X9_forgotten_4_s, hy.2.2.1, if_pos (nI_le (Nat.le_refl n) (by have := hy.1; omega))]
theorem p_only {σ : St} (h : Inv σ) : ∃ r, f_X8_only σ = some r ∧ f_X9_only σ = some r := by
  obtain ⟨n, hy⟩ := h.1
  unfold f_X8_only f_X9_only
  rw [keptBySoMany_eq hy.1 hy.2.1, ob_s]
  refine ⟨_, rfl, ?_⟩
  refine loop_r (fun f a k => f_X9_only_4 σ f a (nI k)) (maskS _) n ?_ ?_ fu (fu_gt (by have := hy.1; omega))
  · intro f k hk
    have hn := hy.1
    have hk10 := Nat.lt_of_lt_of_le hk hy.1
    obtain ⟨v, hv, ev⟩ := keepers_rng (t := σ 21 3) (hy.d hk).1
    have ev' : f_X1_keepers (21 + 1 + 2 + k) (σ 21 3) σ = nI v := ev
    show f_X9_only_4 σ (f + 1) _ (nI k) = f_X9_only_4 σ f _ (nI (k + 1))
    rw [f_X9_only_4_s, hy.2.2.1, if_neg (nI_ge hk (by omega)), whoHas_now hy hk, ob_s, ev, pop_bits (by omega), ob_s, maskS_s]
    by_cases hc : f_J6_bitCount_0f7a4 (nI v) = (1 : Int32)
    · have ht : toldS σ 21 k = true := by
        unfold toldS
        by_cases hz : σ 21 3 < σ (21 + 1 + 2 + k) 2
        · exfalso
          have : f_X1_keepers (21 + 1 + 2 + k) (σ 21 3) σ = 0 := by unfold f_X1_keepers; rw [if_pos hz]
          rw [ev'] at this
          rw [this] at hc
          exact absurd hc (by decide +kernel)
        · simp [hz]
      rw [if_pos hc, f_X9_only_37_e, nI_1, if_pos (by first | (rw [ev']; simp [ht, hc]; done) | simp [ht, hc])]
    · rw [if_neg hc, f_X9_only_37_e, nI_1, if_neg (by first | (rw [ev']; simp [hc]; done) | simp [hc])]
  · intro f
    show f_X9_only_4 σ (f + 1) _ (nI n) = _
    rw [f_X9_only_4_s, hy.2.2.1, if_pos (nI_le (Nat.le_refl n) (by have := hy.1; omega))]
theorem toldCount_eq {y n : Nat} {σ : St} (hn : n ≤ 10) (h : σ y 2 = nI n) : f_X7_toldCount y σ = some (sumS (fun k => if toldS σ y k = true then 1 else 0) n) := by
  unfold f_X7_toldCount
  refine loop_r (fun f a k => f_X7_toldCount_4 y σ f a (nI k)) (sumS _) n ?_ ?_ fu (fu_gt (by omega))
  · intro f k hk
    show f_X7_toldCount_4 y σ (f + 1) _ (nI k) = f_X7_toldCount_4 y σ f _ (nI (k + 1))
    rw [f_X7_toldCount_4_s, sumS_s]
    by_cases ht : toldS σ y k = true
    · rw [toldAt_t hn h hk ht, h, if_neg (nI_ge hk (by omega)), ob_s, oc_ss, f_X7_toldCount_26_e, nI_1, if_pos ht]
    · rw [toldAt_f hn h hk ht, h, if_neg (nI_ge hk (by omega)), ob_s, oc_nn, f_X7_toldCount_26_e, nI_1, if_neg ht]
  · intro f
    show f_X7_toldCount_4 y σ (f + 1) _ (nI n) = _
    rw [f_X7_toldCount_4_s, h, if_pos (nI_le (Nat.le_refl n) (by omega))]
theorem manyTold_eq {n : Nat} {σ : St} (hy : YR σ 21 62 n) : f_X9_manyTold σ = some (sumS (fun k => if toldS σ 21 k = true then 1 else 0) n) := by
  unfold f_X9_manyTold
  refine loop_r (fun f a k => f_X9_manyTold_4 σ f a (nI k)) (sumS _) n ?_ ?_ fu (fu_gt (by have := hy.1; omega))
  · intro f k hk
    have := hy.1
    show f_X9_manyTold_4 σ (f + 1) _ (nI k) = f_X9_manyTold_4 σ f _ (nI (k + 1))
    rw [f_X9_manyTold_4_s, hy.2.2.1, if_neg (nI_ge hk (by omega)), told_rS hy hk, ob_s, sumS_s]
    by_cases ht : toldS σ 21 k = true
    · rw [if_pos ht, f_X9_manyTold_31_e, nI_1, if_pos ht]
    · rw [if_neg ht, f_X9_manyTold_31_e, nI_1, if_neg ht]
  · intro f
    show f_X9_manyTold_4 σ (f + 1) _ (nI n) = _
    rw [f_X9_manyTold_4_s, hy.2.2.1, if_pos (nI_le (Nat.le_refl n) (by have := hy.1; omega))]
/-- SIZES told but for some -/
def butS (σ : St) (y : Nat) (x : Int32) (k : Nat) : Int32 := if toldS σ y k = true then (if (x >>> (nI k &&& 31)) &&& (1 : Int32) = 0 then f_X1_size (y + 1 + 2 + k) σ else 0) else 0
theorem sizesBut_eq {y n : Nat} {x : Int32} {σ : St} (hn : n ≤ 10) (h : σ y 2 = nI n) : f_X7_sizesBut y x σ = some (sumS (butS σ y x) n) := by
  unfold f_X7_sizesBut
  refine loop_r (fun f a k => f_X7_sizesBut_4 y x σ f a (nI k)) (sumS _) n ?_ ?_ fu (fu_gt (by omega))
  · intro f k hk
    show f_X7_sizesBut_4 y x σ (f + 1) _ (nI k) = f_X7_sizesBut_4 y x σ f _ (nI (k + 1))
    rw [f_X7_sizesBut_4_s, sumS_s]
    unfold butS
    by_cases ht : toldS σ y k = true
    · rw [toldAt_t hn h hk ht, h, if_neg (nI_ge hk (by omega)), ob_s, oc_ss, if_pos ht]
      by_cases hc : (x >>> (nI k &&& 31)) &&& (1 : Int32) = 0
      · rw [if_pos hc, if_pos hc, f_X7_sizesBut_40_e, nI_1]
      · rw [if_neg hc, if_neg hc, f_X7_sizesBut_40_e, nI_1, add0]
    · rw [toldAt_f hn h hk ht, h, if_neg (nI_ge hk (by omega)), ob_s, oc_nn, if_neg ht, f_X7_sizesBut_40_e, nI_1, add0]
  · intro f
    show f_X7_sizesBut_4 y x σ (f + 1) _ (nI n) = _
    rw [f_X7_sizesBut_4_s, h, if_pos (nI_le (Nat.le_refl n) (by omega))]
theorem sizeOf_now {σ : St} {n k : Nat} (hy : YR σ 21 62 n) (hk : k < n) : f_X9_sizeOf 62 (nI k) σ = some (f_X1_size (24 + k) σ) := sizeOf_rel (Nat.lt_of_lt_of_le hk hy.1) (hy.d hk).1 (hy.d hk).2
theorem toldWithout_eq {n : Nat} {x : Int32} {σ : St} (hy : YR σ 21 62 n) : f_X9_toldWithout x σ = some (sumS (butS σ 21 x) n) := by
  unfold f_X9_toldWithout
  refine loop_r (fun f a k => f_X9_toldWithout_4 x σ f a (nI k)) (sumS _) n ?_ ?_ fu (fu_gt (by have := hy.1; omega))
  · intro f k hk
    have := hy.1
    show f_X9_toldWithout_4 x σ (f + 1) _ (nI k) = f_X9_toldWithout_4 x σ f _ (nI (k + 1))
    rw [f_X9_toldWithout_4_s, hy.2.2.1, if_neg (nI_ge hk (by omega)), told_rS hy hk, ob_s, sumS_s]
    unfold butS f_X9_has
    by_cases ht : toldS σ 21 k = true
    · rw [if_pos ht, if_pos ht]
      by_cases hc : (x >>> (nI k &&& 31)) &&& (1 : Int32) = 0
      · rw [if_pos hc, hc, if_neg (by decide), sizeOf_now hy hk, ob_s, f_X9_toldWithout_46_e, nI_1]
      · rw [if_neg hc, and1_ne hc, if_pos rfl, if_pos rfl, f_X9_toldWithout_45_e, f_X9_toldWithout_46_e, nI_1]
    · rw [if_neg ht, if_neg ht, f_X9_toldWithout_45_e, f_X9_toldWithout_46_e, nI_1]
  · intro f
    show f_X9_toldWithout_4 x σ (f + 1) _ (nI n) = _
    rw [f_X9_toldWithout_4_s, hy.2.2.1, if_pos (nI_le (Nat.le_refl n) (by have := hy.1; omega))]
theorem allLasting_eq {y n : Nat} {σ : St} (hn : n ≤ 10) (h : σ y 2 = nI n) : f_X7_allLasting y σ = some (sumS (fun k => σ (y + 1 + 2 + k) 5) n) := by
  unfold f_X7_allLasting
  refine loop_r (fun f a k => f_X7_allLasting_4 y σ f a (nI k)) (sumS _) n ?_ ?_ fu (fu_gt (by omega))
  · intro f k hk
    show f_X7_allLasting_4 y σ (f + 1) _ (nI k) = f_X7_allLasting_4 y σ f _ (nI (k + 1))
    rw [f_X7_allLasting_4_s, deedAt_y hn h hk, h, if_neg (nI_ge hk (by omega)), ob_s, oc_ss, f_X7_allLasting_31_e, nI_1, sumS_s]
  · intro f
    show f_X7_allLasting_4 y σ (f + 1) _ (nI n) = _
    rw [f_X7_allLasting_4_s, h, if_pos (nI_le (Nat.le_refl n) (by omega))]
theorem allSeen_eq {y n : Nat} {σ : St} (hn : n ≤ 10) (h : σ y 2 = nI n) : f_X7_allSeen y σ = some (sumS (fun k => f_J6_bitCount_0f7a4 (σ (y + 1 + 2 + k) 4)) n) := by
  unfold f_X7_allSeen
  refine loop_r (fun f a k => f_X7_allSeen_4 y σ f a (nI k)) (sumS _) n ?_ ?_ fu (fu_gt (by omega))
  · intro f k hk
    show f_X7_allSeen_4 y σ (f + 1) _ (nI k) = f_X7_allSeen_4 y σ f _ (nI (k + 1))
    rw [f_X7_allSeen_4_s, deedAt_y hn h hk, h, if_neg (nI_ge hk (by omega)), ob_s, oc_ss, f_X7_allSeen_34_e, nI_1, sumS_s]
  · intro f
    show f_X7_allSeen_4 y σ (f + 1) _ (nI n) = _
    rw [f_X7_allSeen_4_s, h, if_pos (nI_le (Nat.le_refl n) (by omega))]
theorem p_count {σ : St} (h : Inv σ) (x : Int32) : ∃ r, f_X8_count x σ = some r ∧ f_X9_count x σ = some r := by
  obtain ⟨n, hy⟩ := h.1
  have hn := hy.1
  unfold f_X8_count f_X9_count
  by_cases h0 : x = 0
  · subst h0
    rw [if_pos rfl, if_pos (show f_X9_isIn (0 : Int32) 0 1 = true by decide), if_pos (by decide)]
    exact ⟨_, rfl, by rw [hy.2.1]; exact congrArg some hy.2.2.1⟩
  rw [if_neg h0]
  by_cases h1 : x = 1
  · subst h1
    rw [if_pos rfl, if_pos (show f_X9_isIn (1 : Int32) 0 1 = true by decide), if_pos (by decide)]
    exact ⟨_, rfl, congrArg some hy.2.2.2.2.1⟩
  rw [if_neg h1, no_if isin1 (by
    rintro ⟨j, hj, rfl⟩
    have : j = 0 ∨ j = 1 := by omega
    rcases this with rfl | rfl
    · exact h0 rfl
    · exact h1 rfl)]
  by_cases h2 : x = 2
  · rw [if_pos h2, if_pos h2, sizesBut_eq hy.1 hy.2.1, toldWithout_eq hy]
    exact ⟨_, rfl, rfl⟩
  rw [if_neg h2, if_neg h2]
  by_cases h3 : x = 3
  · rw [if_pos h3, if_pos h3, toldCount_eq hy.1 hy.2.1, manyTold_eq hy]
    exact ⟨_, rfl, rfl⟩
  rw [if_neg h3, if_neg h3]
  by_cases h4 : x = 4
  · rw [if_pos h4, if_pos h4, allLasting_eq hy.1 hy.2.1]
    refine ⟨_, rfl, ?_⟩
    refine loop_r (fun f a k => f_X9_count_61 x σ f a (nI k)) (sumS _) n ?_ ?_ fu (fu_gt (by omega))
    · intro f k hk
      have hk10 := Nat.lt_of_lt_of_le hk hy.1
      show f_X9_count_61 x σ (f + 1) _ (nI k) = f_X9_count_61 x σ f _ (nI (k + 1))
      rw [f_X9_count_61_s, hy.2.2.1, if_neg (nI_ge hk (by omega)), if_pos (ofi0 hk10), if_pos (ofi1 hk10), ofc0 hk10, ofc1 hk10, (hy.d hk).2.1, (hy.d hk).2.2.1, (hy.d hk).1.last.1, nI_1, sumS_s]
    · intro f
      show f_X9_count_61 x σ (f + 1) _ (nI n) = _
      rw [f_X9_count_61_s, hy.2.2.1, if_pos (nI_le (Nat.le_refl n) (by omega))]
  rw [if_neg h4, if_neg h4]
  by_cases h5 : x = 5
  · rw [if_pos h5, if_pos h5, allSeen_eq hy.1 hy.2.1]
    refine ⟨_, rfl, ?_⟩
    refine loop_r (fun f a k => f_X9_count_107 x σ f a (nI k)) (sumS _) n ?_ ?_ fu (fu_gt (by omega))
    · intro f k hk
      have hk10 := Nat.lt_of_lt_of_le hk hy.1
      obtain ⟨a, b, d, w, s, ha, hb, hd, hw, hs, ht, e0, e1, e2, e3, e4, -⟩ := (hy.d hk).1
      have e4' : σ (21 + 1 + 2 + k) 4 = nI s := e4
      show f_X9_count_107 x σ (f + 1) _ (nI k) = f_X9_count_107 x σ f _ (nI (k + 1))
      rw [f_X9_count_107_s, hy.2.2.1, if_neg (nI_ge hk (by omega)), if_pos (ofi4 hk10), ofc4 hk10, (hy.d hk).2.2.2.2.2, e4, pop_bits (by omega), ob_s, nI_1, sumS_s, e4']
    · intro f
      show f_X9_count_107 x σ (f + 1) _ (nI n) = _
      rw [f_X9_count_107_s, hy.2.2.1, if_pos (nI_le (Nat.le_refl n) (by omega))]
  rw [if_neg h5, if_neg h5]
  exact ⟨_, rfl, rfl⟩
