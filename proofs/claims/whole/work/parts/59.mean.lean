/-! PURE: mean -/
def s0 : St := fun _ _ => 0
theorem gcd_i {a b c d : Int64} {σ τ : St} : ∀ (f : Nat) (x y : Int64), f_X9_gcd_6 a b σ f x y = f_X9_gcd_6 c d τ f x y
  | 0, _, _ => rfl
  | f + 1, x, y => by rw [f_X9_gcd_6_s, f_X9_gcd_6_s, gcd_i f]
theorem part_i {a b : Int64} {p : Int32} (σ τ : St) : f_X9_partOf a b p σ = f_X9_partOf a b p τ := by
  unfold f_X9_partOf f_X9_partOf_20 f_X9_gcd
  rw [gcd_i (c := a) (d := b) (τ := τ)]
theorem cd_i {a b c d : Int64} {σ τ : St} : ∀ (f : Nat) (x y : Int64) (k : Int32), f_X3_commonDivisor_9 a b σ f x y k = f_X3_commonDivisor_9 c d τ f x y k
  | 0, _, _, _ => rfl
  | f + 1, x, y, k => by rw [f_X3_commonDivisor_9_s, f_X3_commonDivisor_9_s, cd_i f]
theorem lt_i {a b : Int64} {p : Int32} (σ τ : St) : f_X3_inLeastTerms a b p σ = f_X3_inLeastTerms a b p τ := by
  unfold f_X3_inLeastTerms f_X3_inLeastTerms_17 f_X3_commonDivisor
  rw [cd_i (c := a) (d := b) (τ := τ)]
def mnC (c z p : Nat) : Option Int64 := f_X3_inLeastTerms (nI z).toInt64 ((if (1 : Int32) < nI c then nI c else (1 : Int32)).toInt64) (nI p) s0
def mnR (c z p : Nat) : Option Int64 := f_X9_partOf (nI z).toInt64 (nI c).toInt64 (nI p) s0
theorem mean_n : ∀ c : Nat, c < 11 → ∀ z : Nat, z < 12 * c + 1 → ∀ p : Nat, p < 2 → (mnC c z p).isSome = true ∧ mnC c z p = mnR c z p := by decide +kernel
theorem size_12 : ∀ a : Nat, a < 8 → ∀ b : Nat, b < 10 → f_X4_size (nI a) (nI b) = nI (f_X4_size (nI a) (nI b)).toNatClampNeg ∧ (f_X4_size (nI a) (nI b)).toNatClampNeg ≤ 12 := by decide +kernel
theorem DOk.s12 {σ : St} {i : Nat} (h : DOk σ i) : ∃ z : Nat, z ≤ 12 ∧ f_X1_size i σ = nI z := by
  obtain ⟨a, b, d, w, s, ha, hb, hd, hw, hs, ht, e0, e1, -⟩ := h
  obtain ⟨q1, q2⟩ := size_12 a ha b hb
  unfold f_X1_size
  rw [e0, e1]
  exact ⟨_, q2, q1⟩
theorem sum_rng {σ : St} {n : Nat} (hy : YR σ 21 62 n) : ∀ k : Nat, k ≤ n → ∃ c z : Nat, c ≤ k ∧ z ≤ 12 * c ∧ sumS (butS σ 21 0) k = nI z ∧ sumS (fun k => if toldS σ 21 k = true then (1 : Int32) else 0) k = nI c
  | 0, _ => ⟨0, 0, by decide, by decide, rfl, rfl⟩
  | k + 1, h => by
    obtain ⟨c, z, h1, h2, h3, h4⟩ := sum_rng hy k (by omega)
    obtain ⟨s, hs, es⟩ := (hy.d (k := k) (by omega)).1.s12
    rw [sumS_s, sumS_s, h3, h4]
    by_cases ht : toldS σ 21 k = true
    · refine ⟨c + 1, z + s, by omega, by omega, ?_, ?_⟩
      · have e0 : ((0 : Int32) >>> (nI k &&& 31)) &&& (1 : Int32) = 0 := by
          have : (0 : Int32) >>> (nI k &&& 31) = 0 := by
            have hk : ∀ k : Nat, k < 10 → (0 : Int32) >>> (nI k &&& 31) = 0 := by decide +kernel
            exact hk k (by have := hy.1; omega)
          rw [this]; decide
        unfold butS
        rw [if_pos ht, if_pos e0]
        have es' : f_X1_size (21 + 1 + 2 + k) σ = nI s := es
        rw [es', nI_add]
      · rw [if_pos ht, nI_1]
    · refine ⟨c, z, by omega, by omega, ?_, ?_⟩
      · unfold butS
        rw [if_neg ht, add0]
      · rw [if_neg ht, add0]
theorem p_mean {σ : St} (h : Inv σ) (x : Int32) : ∃ r, f_X8_mean x σ = some r ∧ f_X9_mean x σ = some r := by
  obtain ⟨n, hy⟩ := h.1
  have hn := hy.1
  unfold f_X8_mean f_X9_mean
  by_cases hx : isN x 2
  · rw [yes_if below2 hx, yes_if isin1 hx, sizesBut_eq hy.1 hy.2.1, ob_s, toldCount_eq hy.1 hy.2.1, ob_s, toldWithout_eq hy, ob_s, manyTold_eq hy, ob_s]
    obtain ⟨c, z, h1, h2, h3, h4⟩ := sum_rng hy n (Nat.le_refl n)
    obtain ⟨p, hp, rfl⟩ := hx
    rw [h3, h4, lt_i σ s0, part_i σ s0]
    obtain ⟨q1, q2⟩ := mean_n c (by omega) z (by omega) p hp
    have e1 : f_X3_inLeastTerms (nI z).toInt64 ((if (1 : Int32) < nI c then nI c else (1 : Int32)).toInt64) (nI p) s0 = mnC c z p := rfl
    have e2 : f_X9_partOf (nI z).toInt64 (nI c).toInt64 (nI p) s0 = mnR c z p := rfl
    rw [e1, e2, ← q2]
    obtain ⟨r, hr⟩ := Option.isSome_iff_exists.mp q1
    rw [hr]
    exact ⟨r, rfl, rfl⟩
  · rw [no_if below2 hx, no_if isin1 hx]
    exact ⟨_, rfl, rfl⟩
