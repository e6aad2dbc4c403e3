/-! PURE: chance -/
def pcN (m : Nat) : Nat := smM (fun _ => 1) (fun i => m.testBit i) 8
theorem pc_n : ∀ n : Nat, n < 9 → ∀ m : Nat, m < 2 ^ n → bitsS (nI m) = nI (pcN m) ∧ pcN m ≤ n := by decide +kernel
def pwS (t : Nat) : Nat → Int64 := lf (fun _ a => a * (nI t - (1 : Int32)).toInt64) (1 : Int64)
def pbS (t : Nat) : Nat → Int64 := lf (fun _ a => a * (nI t).toInt64) (1 : Int64)
def toS (n t k : Nat) : Nat → Int64 := lf (fun m a => a + (if pcN m < k then (0 : Int64) else pwS t (n - pcN m))) (0 : Int64)
theorem toS_s {n t k m : Nat} : toS n t k (m + 1) = toS n t k m + (if pcN m < k then (0 : Int64) else pwS t (n - pcN m)) := rfl
theorem pow_c {t n : Nat} (hn : n < 9) (σ : St) : f_X3_power (nI t) (nI n) σ = some (pbS t n) := by
  unfold f_X3_power
  refine loop_q (fun f a k => f_X3_power_5 (nI t) (nI n) σ f a (nI k)) (pbS t) n _ ?_ ?_ fu (fu_gt (by omega))
  · intro f k hk
    show f_X3_power_5 (nI t) (nI n) σ (f + 1) _ (nI k) = f_X3_power_5 (nI t) (nI n) σ f _ (nI (k + 1))
    rw [f_X3_power_5_s, if_neg (nI_ge hk (by omega)), nI_1]
    rfl
  · intro f
    show f_X3_power_5 (nI t) (nI n) σ (f + 1) _ (nI n) = _
    rw [f_X3_power_5_s, if_pos (nI_le (Nat.le_refl n) (by omega))]
theorem ways_i {n t k : Int32} {σ τ : St} : ∀ (f : Nat) (a : Int64) (m : Int32), f_X3_waysToChoose_5 n k σ f a m = f_X3_waysToChoose_5 n k τ f a m
  | 0, _, _ => rfl
  | f + 1, a, m => by rw [f_X3_waysToChoose_5_s, f_X3_waysToChoose_5_s, ways_i (t := t) f]
theorem pow_i {n k : Int32} {σ τ : St} : ∀ (f : Nat) (a : Int64) (m : Int32), f_X3_power_5 n k σ f a m = f_X3_power_5 n k τ f a m
  | 0, _, _ => rfl
  | f + 1, a, m => by rw [f_X3_power_5_s, f_X3_power_5_s, pow_i f]
theorem many_i {n t k : Int32} {σ τ : St} : ∀ (f : Nat) (a : Int64) (m : Int32), f_X3_waysOfSoMany_5 n t k σ f a m = f_X3_waysOfSoMany_5 n t k τ f a m
  | 0, _, _ => rfl
  | f + 1, a, m => by
    rw [f_X3_waysOfSoMany_5_s, f_X3_waysOfSoMany_5_s]
    have e1 : f_X3_waysToChoose n m σ = f_X3_waysToChoose n m τ := ways_i (t := t) _ _ _
    have e2 : f_X3_power (t - 1) (n - m) σ = f_X3_power (t - 1) (n - m) τ := pow_i _ _ _
    rw [e1, e2]
    by_cases h : n < m
    · rw [if_pos h, if_pos h]
    · rw [if_neg h, if_neg h]
      refine congrArg (ob _) (funext fun q2 => ?_)
      exact congrArg (ob _) (funext fun q4 => many_i f _ _)
theorem ch_93 {n t k m : Nat} {x4 : Int32} {σ : St} (rec75 : Int64 → Int64 → Int32 → Option Int64) (hn : n < 9) (hk : k < 9) (hm : m < 2 ^ n) (a b : Int64) : f_X9_chance_93 (nI n) (nI t) (nI k) x4 σ rec75 fu a b (nI m) 1 (nI (pcN m)) = rec75 (a + (if pcN m < k then (0 : Int64) else pwS t (n - pcN m))) b (nI (m + 1)) := by
  obtain ⟨p1, p2⟩ := pc_n n hn m hm
  refine loop_q (fun f v j => f_X9_chance_93 (nI n) (nI t) (nI k) x4 σ rec75 f a b (nI m) v (nI (pcN m + j))) (pwS t) (n - pcN m) _ ?_ ?_ fu (fu_gt (by omega))
  · intro f j hj
    show f_X9_chance_93 (nI n) (nI t) (nI k) x4 σ rec75 (f + 1) a b (nI m) _ (nI (pcN m + j)) = f_X9_chance_93 (nI n) (nI t) (nI k) x4 σ rec75 f a b (nI m) _ (nI (pcN m + (j + 1)))
    rw [f_X9_chance_93_s, if_neg (nI_ge (a := pcN m + j) (by omega) (by omega)), nI_1]
    rfl
  · intro f
    show f_X9_chance_93 (nI n) (nI t) (nI k) x4 σ rec75 (f + 1) a b (nI m) _ (nI (pcN m + (n - pcN m))) = _
    rw [f_X9_chance_93_s, if_pos (nI_le (by omega) (by omega)), bits_eq, ob_s, p1]
    by_cases hc : pcN m < k
    · rw [if_pos (nI_lt hc (by omega)), if_pos hc, f_X9_chance_131_e, nI_1]
    · rw [if_neg (nI_nlt (by omega) (by omega)), if_neg hc, f_X9_chance_131_e, nI_1]
theorem ch_75 {n t k : Nat} {x4 : Int32} {σ : St} (hn : n < 9) (hk : k < 9) (b : Int64) : f_X9_chance_75 (nI n) (nI t) (nI k) x4 σ fu 0 b 0 = f_X9_partOf (toS n t k (2 ^ n)) b x4 σ := by
  have h256 : 2 ^ n ≤ 256 := show 2 ^ n ≤ 2 ^ 8 from Nat.pow_le_pow_right (by decide) (by omega)
  refine loop_q (fun f a m => f_X9_chance_75 (nI n) (nI t) (nI k) x4 σ f a b (nI m)) (toS n t k) (2 ^ n) _ ?_ ?_ fu (fu_gt (by omega))
  · intro f m hm
    show f_X9_chance_75 (nI n) (nI t) (nI k) x4 σ (f + 1) _ b (nI m) = f_X9_chance_75 (nI n) (nI t) (nI k) x4 σ f _ b (nI (m + 1))
    rw [f_X9_chance_75_s, shl_n n (by omega), if_neg (nI_ge hm (by omega)), bits_eq, ob_s, (pc_n n hn m hm).1, ch_93 _ hn hk hm, toS_s]
  · intro f
    show f_X9_chance_75 (nI n) (nI t) (nI k) x4 σ (f + 1) _ b (nI (2 ^ n)) = _
    rw [f_X9_chance_75_s, shl_n n (by omega), if_pos (nI_le (Nat.le_refl (2 ^ n)) (by omega))]
    cases f_X9_partOf (toS n t k (2 ^ n)) b x4 σ <;> rfl
theorem ch_53 {n t k : Nat} {x4 : Int32} {σ : St} (hn : n < 9) (hk : k < 9) : f_X9_chance_53 (nI n) (nI t) (nI k) x4 σ fu 0 1 0 = f_X9_partOf (toS n t k (2 ^ n)) (pbS t n) x4 σ := by
  refine loop_q (fun f a j => f_X9_chance_53 (nI n) (nI t) (nI k) x4 σ f 0 a (nI j)) (pbS t) n _ ?_ ?_ fu (fu_gt (by omega))
  · intro f j hj
    show f_X9_chance_53 (nI n) (nI t) (nI k) x4 σ (f + 1) 0 _ (nI j) = f_X9_chance_53 (nI n) (nI t) (nI k) x4 σ f 0 _ (nI (j + 1))
    rw [f_X9_chance_53_s, if_neg (nI_ge hj (by omega)), nI_1]
    rfl
  · intro f
    show f_X9_chance_53 (nI n) (nI t) (nI k) x4 σ (f + 1) 0 _ (nI n) = _
    rw [f_X9_chance_53_s, if_pos (nI_le (Nat.le_refl n) (by omega)), ch_75 hn hk]
theorem ch_ways : ∀ n : Nat, n < 9 → ∀ t : Nat, t < 21 → ∀ k : Nat, k < 9 → f_X3_waysOfSoMany (nI n) (nI t) (nI k) s0 = some (toS n t k (2 ^ n)) := by decide +kernel
def ctS (n t k p : Nat) : Option Int64 := f_X3_inLeastTerms (toS n t k (2 ^ n)) (pbS t n) (nI p) s0
def rtS (n t k p : Nat) : Option Int64 := f_X9_partOf (toS n t k (2 ^ n)) (pbS t n) (nI p) s0
theorem ch_terms : ∀ n : Nat, n < 9 → ∀ t : Nat, t < 19 → ∀ k : Nat, k < 9 → ∀ p : Nat, p < 2 → (ctS n (t + 2) k p).isSome = true ∧ ctS n (t + 2) k p = rtS n (t + 2) k p := by decide +kernel
theorem isin220 {x : Int32} : f_X9_isIn x (2 : Int32) (20 : Int32) = true ↔ ∃ t : Nat, t < 19 ∧ x = nI (t + 2) := by
  rw [isIn_iff]
  have e2 : (2 : Int32).toInt = 2 := rfl
  have e20 : (20 : Int32).toInt = 20 := rfl
  rw [e2, e20]
  constructor
  · rintro ⟨h1, h2⟩
    exact ⟨x.toInt.toNat - 2, by omega, Int32.toInt_inj.mp (by rw [nI_toInt (by omega)]; omega)⟩
  · rintro ⟨t, ht, rfl⟩
    rw [nI_toInt (by omega)]
    omega
theorem p_chance (σ : St) (x1 x2 x3 x4 : Int32) : ∃ r, f_X8_chance x1 x2 x3 x4 σ = some r ∧ f_X9_chance x1 x2 x3 x4 σ = some r := by
  have no16 : f_X8_chance_16 x1 x2 x3 x4 σ 0 = some 1000000001 := by
    unfold f_X8_chance_16
    split
    · rw [if_pos rfl]; rfl
    · rfl
  have hx2 : (∃ t : Nat, t < 19 ∧ x2 = nI (t + 2)) ∨ (¬ (∃ t : Nat, t < 19 ∧ x2 = nI (t + 2)) ∧ (x2 < 2 ∨ 20 < x2)) := by
    by_cases h : ∃ t : Nat, t < 19 ∧ x2 = nI (t + 2)
    · exact Or.inl h
    · refine Or.inr ⟨h, ?_⟩
      rw [← isin220, isIn_iff] at h
      rw [i32_lt, i32_lt]
      omega
  unfold f_X8_chance f_X9_chance
  by_cases h1 : isN x1 9
  · rw [yes_if isin8 h1]
    rcases hx2 with h2 | ⟨h2, h2'⟩
    · rw [yes_if isin220 h2]
      have g1 : ¬ x2 < 2 ∧ ¬ 20 < x2 := by
        rw [← isin220, isIn_iff] at h2
        rw [i32_lt, i32_lt]
        exact ⟨by omega, by omega⟩
      rw [if_neg g1.1, if_neg g1.2]
      unfold f_X8_chance_16
      rw [yes_if within8 h1, if_neg (by decide)]
      by_cases h3 : isN x3 9
      · rw [yes_if isin8 h3, yes_if within8 h3]
        by_cases h4 : isN x4 2
        · rw [yes_if isin1 h4, yes_if below2 h4]
          obtain ⟨n, hn, rfl⟩ := h1
          obtain ⟨t, ht, rfl⟩ := h2
          obtain ⟨k, hk, rfl⟩ := h3
          obtain ⟨p, hp, rfl⟩ := h4
          have ew : f_X3_waysOfSoMany (nI n) (nI (t + 2)) (nI k) σ = some (toS n (t + 2) k (2 ^ n)) := by
            rw [← ch_ways n hn (t + 2) (by omega) k hk]
            exact many_i _ _ _
          rw [ew, ob_s, pow_c hn, ob_s, ch_53 hn hk, lt_i σ s0, part_i σ s0]
          obtain ⟨q1, q2⟩ := ch_terms n hn t ht k hk p hp
          have e1 : f_X3_inLeastTerms (toS n (t + 2) k (2 ^ n)) (pbS (t + 2) n) (nI p) s0 = ctS n (t + 2) k p := rfl
          have e2 : f_X9_partOf (toS n (t + 2) k (2 ^ n)) (pbS (t + 2) n) (nI p) s0 = rtS n (t + 2) k p := rfl
          rw [e1, e2, ← q2]
          obtain ⟨r, hr⟩ := Option.isSome_iff_exists.mp q1
          rw [hr]
          exact ⟨r, rfl, rfl⟩
        · rw [no_if isin1 h4, no_if below2 h4]
          exact ⟨_, rfl, rfl⟩
      · rw [no_if isin8 h3, no_if within8 h3]
        exact ⟨_, rfl, rfl⟩
    · rw [no_if isin220 h2]
      refine ⟨1000000001, ?_, rfl⟩
      unfold f_X8_chance_15
      rw [no16]
      rcases h2' with g | g
      · rw [if_pos g]
      · by_cases g0 : x2 < 2
        · rw [if_pos g0]
        · rw [if_neg g0, if_pos g]
  · rw [no_if isin8 h1]
    refine ⟨1000000001, ?_, rfl⟩
    unfold f_X8_chance_15
    rw [no16]
    have n1 : f_X8_chance_16 x1 x2 x3 x4 σ 1 = some 1000000001 := by
      unfold f_X8_chance_16
      rw [no_if within8 h1]
      rfl
    rw [n1]
    split
    · rfl
    · split <;> rfl
