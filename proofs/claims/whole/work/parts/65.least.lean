/-! PURE: leastInIt: masks and sums -/
theorem bit_k : ∀ m : Nat, m < 1024 → ∀ k : Nat, k < 10 → ((nI m >>> (nI k &&& 31)) &&& (1 : Int32) = 0 ↔ m.testBit k = false) := by decide +kernel
/-- what a deed weighs in print -/
def wtS (σ : St) (k : Nat) : Nat := if toldS σ 21 k = true then (f_X1_size (24 + k) σ).toNatClampNeg else 0
theorem wt_size {σ : St} {n k : Nat} (hy : YR σ 21 62 n) (hk : k < n) : f_X1_size (24 + k) σ = nI (f_X1_size (24 + k) σ).toNatClampNeg ∧ (f_X1_size (24 + k) σ).toNatClampNeg ≤ 12 := by
  obtain ⟨z, hz, e⟩ := (hy.d hk).1.s12
  rw [e, nI_clamp (n := z) (by omega)]
  exact ⟨rfl, hz⟩
/-- the rest's weight -/
def rsM (σ : St) (m : Nat) : Nat → Nat
  | 0 => 0
  | k + 1 => rsM σ m k + (if m.testBit k = true then 0 else wtS σ k)
theorem rest_eq {σ : St} {n m : Nat} (hy : YR σ 21 62 n) (hm : m < 1024) : ∀ k : Nat, k ≤ n → sumS (butS σ 21 (nI m)) k = nI (rsM σ m k)
  | 0, _ => rfl
  | k + 1, h => by
    have hn := hy.1
    rw [sumS_s, rest_eq hy hm k (by omega)]
    show _ = nI (rsM σ m k + (if m.testBit k = true then 0 else wtS σ k))
    rw [← nI_add]
    refine congrArg (nI (rsM σ m k) + ·) ?_
    obtain ⟨e, -⟩ := wt_size hy (k := k) (by omega)
    have e' : f_X1_size (21 + 1 + 2 + k) σ = nI (f_X1_size (24 + k) σ).toNatClampNeg := e
    unfold butS wtS
    by_cases ht : toldS σ 21 k = true
    · rw [if_pos ht]
      by_cases hb : m.testBit k = true
      · rw [if_pos hb, if_neg (fun q => by rw [(bit_k m hm k (by omega)).mp q] at hb; exact absurd hb (by decide))]
        rfl
      · rw [if_neg hb, if_pos ((bit_k m hm k (by omega)).mpr (by simpa using hb)), if_pos ht]
        exact e'
    · rw [if_neg ht, if_neg ht]
      split <;> rfl
theorem rest_sum {σ : St} {m : Nat} : ∀ k : Nat, rsM σ m k + smM (wtS σ) (fun i => m.testBit i) k = smM (wtS σ) (fun _ => true) k
  | 0 => rfl
  | k + 1 => by
    have ih := rest_sum (σ := σ) (m := m) k
    show rsM σ m k + (if m.testBit k = true then 0 else wtS σ k) + (smM (wtS σ) (fun i => m.testBit i) k + (if m.testBit k = true then wtS σ k else 0)) = smM (wtS σ) (fun _ => true) k + (if true = true then wtS σ k else 0)
    rw [if_pos rfl]
    by_cases hb : m.testBit k = true
    · rw [if_pos hb, if_pos hb]; omega
    · rw [if_neg hb, if_neg hb]; omega
