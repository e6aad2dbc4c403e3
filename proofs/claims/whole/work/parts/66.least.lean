/-! PURE: leastInIt: both ways come to the same mask -/
theorem or_bit : ∀ m : Nat, m < 1024 → ∀ x : Nat, x < 10 → nI m ||| ((1 : Int32) <<< (nI x &&& 31)) = nI (m ||| 2 ^ x) := by decide +kernel
theorem pop_sm : ∀ n : Nat, n < 11 → ∀ m : Nat, m < 2 ^ n → f_J6_bitCount_0f7a4 (nI m) = nI (smM (fun _ => 1) (fun i => m.testBit i) n) ∧ smM (fun i => 2 ^ i) (fun i => m.testBit i) n = m := by decide +kernel
theorem shl_n : ∀ n : Nat, n < 11 → (1 : Int32) <<< (nI n &&& 31) = nI (2 ^ n) := by decide +kernel
theorem sm_cnt {M : Nat → Bool} : ∀ n : Nat, smM (fun _ => 1) M n ≤ n
  | 0 => Nat.le_refl 0
  | n + 1 => by
    have := sm_cnt (M := M) n
    show smM (fun _ => 1) M n + (if M n = true then 1 else 0) ≤ n + 1
    split <;> omega
theorem p2_le {n : Nat} (h : n ≤ 10) : 2 ^ n ≤ 1024 := show 2 ^ n ≤ 2 ^ 10 from Nat.pow_le_pow_right (by decide) h
def gyS (σ : St) : Nat → Nat
  | 0 => 0
  | k + 1 => (nI (gyS σ k) ||| (f_X7_greatestBut 21 (nI (gyS σ k)) σ).getD 0).toNatClampNeg
theorem gy_step {σ : St} {n : Nat} (hy : YR σ 21 62 n) {k : Nat} (hk : gyS σ k < 2 ^ n) : gyS σ (k + 1) < 2 ^ n ∧ (∃ v, f_X7_greatestBut 21 (nI (gyS σ k)) σ = some v ∧ nI (gyS σ k) ||| v = nI (gyS σ (k + 1))) ∧ grM (wtS σ) n (fun i => (gyS σ k).testBit i) (fun i => (gyS σ (k + 1)).testBit i) := by
  have hn := hy.1
  have h10 : gyS σ k < 1024 := Nat.lt_of_lt_of_le hk (p2_le hn)
  obtain ⟨v, ev, h⟩ := great_c hy h10
  have e : gyS σ (k + 1) = (nI (gyS σ k) ||| v).toNatClampNeg := by
    show (nI (gyS σ k) ||| (f_X7_greatestBut 21 (nI (gyS σ k)) σ).getD 0).toNatClampNeg = _
    rw [ev]
    rfl
  rcases h with ⟨rfl, h2⟩ | ⟨x, hx, gx, rfl, h3, h4, h5⟩
  · rw [or0, nI_clamp (n := gyS σ k) (by omega)] at e
    refine ⟨by rw [e]; exact hk, ⟨0, ev, by rw [or0, e]⟩, Or.inr ⟨h2, fun i => by rw [e]⟩⟩
  · rw [or_bit _ h10 x (by omega)] at e
    have hlt : gyS σ k ||| 2 ^ x < 2 ^ n := Nat.or_lt_two_pow hk (Nat.pow_lt_pow_right (by decide) hx)
    rw [nI_clamp (n := gyS σ k ||| 2 ^ x) (by have := p2_le hn; omega)] at e
    refine ⟨by rw [e]; exact hlt, ⟨_, ev, by rw [or_bit _ h10 x (by omega), e]⟩, Or.inl ⟨x, hx, gx, h3, h4, h5, ?_, fun i hi => ?_⟩⟩
    · show (gyS σ (k + 1)).testBit x = true
      rw [e, Nat.testBit_or, Nat.testBit_two_pow_self, Bool.or_true]
    · show (gyS σ (k + 1)).testBit i = (gyS σ k).testBit i
      rw [e, Nat.testBit_or, Nat.testBit_two_pow_of_ne (fun z => hi z.symm), Bool.or_false]
theorem gy_lt {σ : St} {n : Nat} (hy : YR σ 21 62 n) : ∀ k : Nat, gyS σ k < 2 ^ n
  | 0 => Nat.pow_pos (by decide)
  | k + 1 => (gy_step hy (gy_lt hy k)).1
theorem rs_le {σ : St} {n m : Nat} (hy : YR σ 21 62 n) : ∀ k : Nat, k ≤ n → rsM σ m k ≤ 12 * k
  | 0, _ => Nat.le_refl 0
  | k + 1, h => by
    have ih := rs_le (m := m) hy k (by omega)
    have hw : wtS σ k ≤ 12 := by
      have := (wt_size hy (k := k) (by omega)).2
      unfold wtS; split <;> omega
    show rsM σ m k + (if m.testBit k = true then 0 else wtS σ k) ≤ _
    split <;> omega
theorem rest_n {σ : St} {n m : Nat} (hy : YR σ 21 62 n) (hm : m < 2 ^ n) : sumS (butS σ 21 (nI m)) n = nI (rsM σ m n) := rest_eq hy (Nat.lt_of_lt_of_le hm (p2_le hy.1)) n (Nat.le_refl n)
theorem least_c {σ : St} {n N : Nat} (hy : YR σ 21 62 n) (hN : N ≤ 10) (x2 : Int32) : f_X8_leastInIt_24 (nI N) x2 σ fu 0 0 = some (if x2 = 0 then nI (gyS σ N) else nI (rsM σ (gyS σ N) n)) := by
  have hn := hy.1
  refine loop_q (fun f a k => f_X8_leastInIt_24 (nI N) x2 σ f a (nI k)) (fun k => nI (gyS σ k)) N _ ?_ ?_ fu (fu_gt (by omega))
  · intro f k hk
    obtain ⟨-, ⟨v, e1, e2⟩, -⟩ := gy_step hy (gy_lt hy k)
    show f_X8_leastInIt_24 (nI N) x2 σ (f + 1) (nI (gyS σ k)) (nI k) = f_X8_leastInIt_24 (nI N) x2 σ f (nI (gyS σ (k + 1))) (nI (k + 1))
    rw [f_X8_leastInIt_24_s, if_neg (nI_ge hk (by omega)), e1, ob_s, e2, nI_1]
  · intro f
    show f_X8_leastInIt_24 (nI N) x2 σ (f + 1) (nI (gyS σ N)) (nI N) = _
    rw [f_X8_leastInIt_24_s, if_pos (nI_le (Nat.le_refl N) (by omega)), sizesBut_eq hn hy.2.1, ob_s, rest_n hy (gy_lt hy N)]
    by_cases h : x2 = 0
    · rw [if_pos h, if_pos h]
    · rw [if_neg h, if_neg h]
theorem least_r {σ : St} {n N : Nat} (hy : YR σ 21 62 n) (hN : N ≤ 10) (x2 : Int32) : ∃ b : Nat, b < 2 ^ n ∧ smM (fun _ => 1) (fun i => b.testBit i) n ≤ N ∧ (∀ j : Nat, j < 2 ^ n → smM (fun _ => 1) (fun i => j.testBit i) n ≤ N → rsM σ b n ≤ rsM σ j n ∧ (rsM σ b n = rsM σ j n → b ≤ j)) ∧ f_X9_leastInIt_26 (nI N) x2 σ fu 0 1 = some (if x2 = 0 then nI b else nI (rsM σ b n)) := by
  have hn := hy.1
  have h1024 := p2_le hn
  have hpos : 0 < 2 ^ n := Nat.pow_pos (by decide)
  have sm0 : smM (fun _ => 1) (fun i => (0 : Nat).testBit i) n = 0 := sm_false n (fun i => Nat.zero_testBit i)
  have key : ∀ (d f m b : Nat), m + d = 2 ^ n → d < f → b < m → smM (fun _ => 1) (fun i => b.testBit i) n ≤ N → (∀ j : Nat, j < m → smM (fun _ => 1) (fun i => j.testBit i) n ≤ N → rsM σ b n ≤ rsM σ j n ∧ (rsM σ b n = rsM σ j n → b ≤ j)) → ∃ c : Nat, c < 2 ^ n ∧ smM (fun _ => 1) (fun i => c.testBit i) n ≤ N ∧ (∀ j : Nat, j < 2 ^ n → smM (fun _ => 1) (fun i => j.testBit i) n ≤ N → rsM σ c n ≤ rsM σ j n ∧ (rsM σ c n = rsM σ j n → c ≤ j)) ∧ f_X9_leastInIt_26 (nI N) x2 σ f (nI b) (nI m) = some (if x2 = 0 then nI c else nI (rsM σ c n)) := by
    intro d
    induction d with
    | zero =>
      intro f m b hm hf hb h1 h2
      obtain ⟨f, rfl⟩ : ∃ g, f = g + 1 := ⟨f - 1, by omega⟩
      obtain rfl : m = 2 ^ n := by omega
      refine ⟨b, hb, h1, h2, ?_⟩
      rw [f_X9_leastInIt_26_s, hy.2.2.1, shl_n n (by omega), if_pos (nI_le (Nat.le_refl (2 ^ n)) (by omega)), toldWithout_eq hy, ob_s, rest_n hy hb]
      by_cases h : x2 = 0
      · rw [if_pos h, if_pos h]
      · rw [if_neg h, if_neg h]
    | succ d ih =>
      intro f m b hm hf hb h1 h2
      obtain ⟨f, rfl⟩ : ∃ g, f = g + 1 := ⟨f - 1, by omega⟩
      have hm2 : m < 2 ^ n := by omega
      have hpc := sm_cnt (M := fun i => m.testBit i) n
      rw [f_X9_leastInIt_26_s, hy.2.2.1, shl_n n (by omega), if_neg (nI_ge hm2 (by omega)), pop_bits (v := m) (by omega), ob_s, (pop_sm n (by omega) m hm2).1]
      by_cases hc : smM (fun _ => 1) (fun i => m.testBit i) n ≤ N
      · rw [if_neg (nI_nlt hc (by omega)), toldWithout_eq hy, ob_s, toldWithout_eq hy, ob_s, rest_n hy hm2, rest_n hy (m := b) (by omega)]
        have l1 := rs_le (m := m) hy n (Nat.le_refl n)
        have l2 := rs_le (m := b) hy n (Nat.le_refl n)
        by_cases hr : rsM σ b n ≤ rsM σ m n
        · rw [if_pos (nI_le hr (by omega)), f_X9_leastInIt_65_e, nI_1]
          refine ih f (m + 1) b (by omega) (by omega) (by omega) h1 (fun j hj hjc => ?_)
          by_cases hjm : j = m
          · rw [hjm]; exact ⟨hr, fun _ => by omega⟩
          · exact h2 j (by omega) hjc
        · rw [if_neg (nI_ge (by omega) (by omega)), f_X9_leastInIt_65_e, nI_1]
          refine ih f (m + 1) m (by omega) (by omega) (by omega) hc (fun j hj hjc => ?_)
          by_cases hjm : j = m
          · rw [hjm]; exact ⟨Nat.le_refl _, fun _ => Nat.le_refl _⟩
          · have := (h2 j (by omega) hjc).1
            exact ⟨by omega, fun q => by omega⟩
      · rw [if_pos (nI_lt (by omega) (by omega)), f_X9_leastInIt_65_e, nI_1]
        refine ih f (m + 1) b (by omega) (by omega) (by omega) h1 (fun j hj hjc => ?_)
        by_cases hjm : j = m
        · rw [hjm] at hjc; exact absurd hjc hc
        · exact h2 j (by omega) hjc
  exact key (2 ^ n - 1) fu 1 0 (by omega) (fu_gt (by omega)) (by decide) (by rw [sm0]; omega) (fun j hj _ => by
    obtain rfl : j = 0 := by omega
    exact ⟨Nat.le_refl _, fun _ => Nat.le_refl _⟩)
theorem p_leastInIt {σ : St} (h : Inv σ) (x y : Int32) : ∃ r, f_X8_leastInIt x y σ = some r ∧ f_X9_leastInIt x y σ = some r := by
  obtain ⟨n, hy⟩ := h.1
  have hn := hy.1
  unfold f_X8_leastInIt f_X9_leastInIt
  by_cases hx : isN x 11
  · rw [yes_if within10 hx, yes_if isin10 hx]
    by_cases h2 : isN y 2
    · rw [yes_if below2 h2, yes_if isin1 h2]
      obtain ⟨N, hN, rfl⟩ := hx
      obtain ⟨b, hb, b1, b2, e⟩ := least_r hy (N := N) (by omega) y
      rw [least_c hy (N := N) (by omega) y, e]
      have hg := gy_lt hy
      have hs := fun k => (gy_step hy (hg k)).2.2
      have h0 : ∀ i : Nat, (fun i => (gyS σ 0).testBit i) i = false := fun i => Nat.zero_testBit i
      have cd := greedy_cd (w := wtS σ) (n := n) (G := fun k i => (gyS σ k).testBit i) h0 hs N
      obtain ⟨g1, g2⟩ := greedy (w := wtS σ) (n := n) (G := fun k i => (gyS σ k).testBit i) h0 hs N (fun i => b.testBit i) b1
      have s1 := rest_sum (σ := σ) (m := b) n
      have s2 := rest_sum (σ := σ) (m := gyS σ N) n
      obtain ⟨m1, m2⟩ := b2 (gyS σ N) (hg N) cd
      have v1 := (pop_sm n (by omega) b hb).2
      have v2 := (pop_sm n (by omega) (gyS σ N) (hg N)).2
      have g1' : smM (wtS σ) (fun i => b.testBit i) n ≤ smM (wtS σ) (fun i => (gyS σ N).testBit i) n := g1
      have g2' : smM (wtS σ) (fun i => b.testBit i) n = smM (wtS σ) (fun i => (gyS σ N).testBit i) n → smM (fun i => 2 ^ i) (fun i => (gyS σ N).testBit i) n ≤ smM (fun i => 2 ^ i) (fun i => b.testBit i) n := g2
      rw [v1, v2] at g2'
      have e1 : rsM σ b n = rsM σ (gyS σ N) n := by omega
      have e2 : b = gyS σ N := Nat.le_antisymm (m2 e1) (g2' (by omega))
      rw [e2]
      exact ⟨_, rfl, rfl⟩
    · rw [no_if below2 h2, no_if isin1 h2]
      exact ⟨_, rfl, rfl⟩
  · rw [no_if within10 hx, no_if isin10 hx]
    exact ⟨_, rfl, rfl⟩
