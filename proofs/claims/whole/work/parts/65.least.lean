/-! PURE: leastInIt: masks and sums -/
theorem bit_k : ∀ m : Nat, m < 1024 → ∀ k : Nat, k < 10 → ((nI m >>> (nI k &&& 31)) &&& (1 : Int32) = 0 ↔ m.testBit k = false) := by decide +kernel
/-- what a deed weighs in print -/
def wtS (σ : St) (k : Nat) : Nat := if toldS σ 21 k = true then (f_X1_size (24 + k) σ).toNatClampNeg else 0
theorem wt_size {σ : St} {n k : Nat} (hy : YR σ 21 62 n) (hk : k < n) : f_X1_size (24 + k) σ = nI (f_X1_size (24 + k) σ).toNatClampNeg ∧ (f_X1_size (24 + k) σ).toNatClampNeg ≤ 12 := by
  obtain ⟨z, hz, e⟩ := (hy.d hk).1.s12
  rw [e, nI_clamp (n := z) (by omega)]
  exact ⟨rfl, hz⟩
/-- the rest's weight -/
def rsM (σ : St) (m : Nat) : Nat → Nat
  | 0 => 0
  | k + 1 => rsM σ m k + (if m.testBit k = true then 0 else wtS σ k)
theorem rest_eq {σ : St} {n m : Nat} (hy : YR σ 21 62 n) (hm : m < 1024) : ∀ k : Nat, k ≤ n → sumS (butS σ 21 (nI m)) k = nI (rsM σ m k)
  | 0, _ => rfl
  | k + 1, h => by
    have hn := hy.1
    rw [sumS_s, rest_eq hy hm k (by omega)]
    show _ = nI (rsM σ m k + (if m.testBit k = true then 0 else wtS σ k))
    rw [← nI_add]
    refine congrArg (nI (rsM σ m k) + ·) ?_
    obtain ⟨e, -⟩ := wt_size hy (k := k) (by omega)
    have e' : f_X1_size (21 + 1 + 2 + k) σ = nI (f_X1_size (24 + k) σ).toNatClampNeg := e
    unfold butS wtS
    by_cases ht : toldS σ 21 k = true
    · rw [if_pos ht]
      by_cases hb : m.testBit k = true
      · rw [if_pos hb, if_neg (fun q => by rw [(bit_k m hm k (by omega)).mp q] at hb; exact absurd hb (by decide))]
        rfl
      · rw [if_neg hb, if_pos ((bit_k m hm k (by omega)).mpr (by simpa using hb)), if_pos ht]
        exact e'
    · rw [if_neg ht, if_neg ht]
      split <;> rfl
theorem rest_sum {σ : St} {m : Nat} : ∀ k : Nat, rsM σ m k + smM (wtS σ) (fun i => m.testBit i) k = smM (wtS σ) (fun _ => true) k
  | 0 => rfl
  | k + 1 => by
    have ih := rest_sum (σ := σ) (m := m) k
    show rsM σ m k + (if m.testBit k = true then 0 else wtS σ k) + (smM (wtS σ) (fun i => m.testBit i) k + (if m.testBit k = true then wtS σ k else 0)) = smM (wtS σ) (fun _ => true) k + (if true = true then wtS σ k else 0)
    rw [if_pos rfl]
    by_cases hb : m.testBit k = true
    · rw [if_pos hb, if_pos hb]; omega
    · rw [if_neg hb, if_neg hb]; omega
theorem great_c {σ : St} {n m : Nat} (hy : YR σ 21 62 n) (hm : m < 1024) : ∃ v, f_X7_greatestBut 21 (nI m) σ = some v ∧ ((v = 0 ∧ ∀ y : Nat, y < n → m.testBit y = false → wtS σ y = 0) ∨ ∃ x : Nat, x < n ∧ m.testBit x = false ∧ v = (1 : Int32) <<< (nI x &&& 31) ∧ 0 < wtS σ x ∧ (∀ y : Nat, y < n → m.testBit y = false → wtS σ y ≤ wtS σ x) ∧ ∀ y : Nat, y < x → m.testBit y = false → wtS σ y < wtS σ x) := by
  have hn := hy.1
  refine loop_j (fun f (a : Int32 × Int32) k => f_X7_greatestBut_7 21 (nI m) σ f a.1 a.2 (nI k)) (fun k a => (a.1 = 0 ∧ a.2 = 0 ∧ ∀ y : Nat, y < k → m.testBit y = false → wtS σ y = 0) ∨ ∃ x : Nat, x < k ∧ m.testBit x = false ∧ a.1 = (1 : Int32) <<< (nI x &&& 31) ∧ a.2 = nI (wtS σ x) ∧ 0 < wtS σ x ∧ (∀ y : Nat, y < k → m.testBit y = false → wtS σ y ≤ wtS σ x) ∧ ∀ y : Nat, y < x → m.testBit y = false → wtS σ y < wtS σ x) (fun b => ∃ v, b = some v ∧ ((v = 0 ∧ ∀ y : Nat, y < n → m.testBit y = false → wtS σ y = 0) ∨ ∃ x : Nat, x < n ∧ m.testBit x = false ∧ v = (1 : Int32) <<< (nI x &&& 31) ∧ 0 < wtS σ x ∧ (∀ y : Nat, y < n → m.testBit y = false → wtS σ y ≤ wtS σ x) ∧ ∀ y : Nat, y < x → m.testBit y = false → wtS σ y < wtS σ x)) n ?_ ?_ fu ((0 : Int32), (0 : Int32)) (Or.inl ⟨rfl, rfl, fun y hy => absurd hy (Nat.not_lt_zero y)⟩) (fu_gt (by omega))
  · intro f k ⟨a, b⟩ hk h
    have hb10 : inb (nI k) 10 := inb_nI (by omega) (by decide)
    obtain ⟨es, hs12⟩ := wt_size hy hk
    show ∃ a' : Int32 × Int32, _ ∧ f_X7_greatestBut_7 21 (nI m) σ (f + 1) a b (nI k) = f_X7_greatestBut_7 21 (nI m) σ f a'.1 a'.2 (nI (k + 1))
    rw [f_X7_greatestBut_7_s]
    have skip : (m.testBit k = false → ((∀ y : Nat, y < k → m.testBit y = false → wtS σ y = 0) → wtS σ k = 0) ∧ ∀ x : Nat, 0 < wtS σ x → b = nI (wtS σ x) → x < k → wtS σ k ≤ wtS σ x) → (a = 0 → b = 0 → m.testBit k = false → wtS σ k = 0) → ∃ a' : Int32 × Int32, ((a'.1 = 0 ∧ a'.2 = 0 ∧ ∀ y : Nat, y < k + 1 → m.testBit y = false → wtS σ y = 0) ∨ ∃ x : Nat, x < k + 1 ∧ m.testBit x = false ∧ a'.1 = (1 : Int32) <<< (nI x &&& 31) ∧ a'.2 = nI (wtS σ x) ∧ 0 < wtS σ x ∧ (∀ y : Nat, y < k + 1 → m.testBit y = false → wtS σ y ≤ wtS σ x) ∧ ∀ y : Nat, y < x → m.testBit y = false → wtS σ y < wtS σ x) ∧ f_X7_greatestBut_7 21 (nI m) σ f a b (nI (k + 1)) = f_X7_greatestBut_7 21 (nI m) σ f a'.1 a'.2 (nI (k + 1)) := by
      intro p1 p2
      refine ⟨(a, b), ?_, rfl⟩
      rcases h with ⟨h1, h2, h3⟩ | ⟨x, h1, h2, h3, h4, h5, h6, h7⟩
      · refine Or.inl ⟨h1, h2, fun y hyk hb => ?_⟩
        by_cases e : y = k
        · subst e; exact p2 h1 h2 hb
        · exact h3 y (by omega) hb
      · refine Or.inr ⟨x, by omega, h2, h3, h4, h5, fun y hyk hb => ?_, h7⟩
        by_cases e : y = k
        · subst e; exact (p1 hb).2 x h5 h4 h1
        · exact h6 y (by omega) hb
    by_cases ht : toldS σ 21 k = true
    · have ew : wtS σ k = (f_X1_size (24 + k) σ).toNatClampNeg := if_pos ht
      rw [toldAt_t hn hy.2.1 hk ht, hy.2.1, if_neg (nI_ge hk (by omega)), ob_s, oc_ss, f_X7_greatestBut_58_e, nI_1]
      by_cases hb : m.testBit k = false
      · rw [if_pos ((bit_k m hm k (by omega)).mpr hb)]
        have es' : f_X1_size (21 + 1 + 2 + k) σ = nI (wtS σ k) := by rw [ew]; exact es
        rw [es']
        by_cases hc : nI (wtS σ k) ≤ b
        · rw [if_pos hc]
          refine skip (fun _ => ⟨fun _ => ?_, fun x hx0 hxb hxk => ?_⟩) (fun _ hb0 _ => ?_)
          · rcases h with ⟨-, h2, -⟩ | ⟨x, h1, h2, h3, h4, h5, h6, h7⟩
            · have h2' : b = 0 := h2
              rw [h2'] at hc
              by_cases z : wtS σ k = 0
              · exact z
              · exact absurd hc (nI_nle (by omega) (by omega))
            · have := ‹∀ y : Nat, y < k → m.testBit y = false → wtS σ y = 0› x h1 h2
              omega
          · have hw12 : wtS σ x ≤ 12 := by
              have := (wt_size hy (k := x) (by omega)).2
              unfold wtS; split <;> omega
            rw [hxb] at hc
            exact Classical.byContradiction fun q => absurd hc (nI_ge (by omega) (by omega))
          · rw [hb0] at hc
            by_cases z : wtS σ k = 0
            · exact z
            · exact absurd hc (nI_nle (by omega) (by omega))
        · rw [if_neg hc]
          rw [f_X7_greatestBut_58_e, nI_1]
          refine ⟨((1 : Int32) <<< (nI k &&& 31), nI (wtS σ k)), Or.inr ⟨k, by omega, hb, rfl, rfl, ?_, fun y hyk hb' => ?_, fun y hyk hb' => ?_⟩, rfl⟩
          · rcases h with ⟨-, h2, -⟩ | ⟨x, _, -, -, h4, h5, -⟩
            · have h2' : b = 0 := h2
              rw [h2'] at hc
              by_cases z : wtS σ k = 0
              · exact absurd (show nI (wtS σ k) ≤ 0 by rw [z]; decide) hc
              · omega
            · have h4' : b = nI (wtS σ x) := h4
              rw [h4'] at hc
              have h1' : x < k := ‹x < k›
              have hw12 : wtS σ x ≤ 12 := by
                have := (wt_size hy (k := x) (by omega)).2
                unfold wtS; split <;> omega
              exact Classical.byContradiction fun q => hc (nI_le (by omega) (by omega))
          · by_cases e : y = k
            · rw [e]; exact Nat.le_refl _
            · rcases h with ⟨-, -, h3⟩ | ⟨x, h1, h2, h3, h4, h5, h6, h7⟩
              · rw [h3 y (by omega) hb']; omega
              · have h4' : b = nI (wtS σ x) := h4
                have := h6 y (by omega) hb'
                rw [h4'] at hc
                have hw12 : wtS σ x ≤ 12 := by
                  have := (wt_size hy (k := x) (by omega)).2
                  unfold wtS; split <;> omega
                exact Classical.byContradiction fun q => hc (nI_le (by omega) (by omega))
          · rcases h with ⟨-, h2, h3⟩ | ⟨x, h1, h2, h3, h4, h5, h6, h7⟩
            · have h2' : b = 0 := h2
              rw [h2'] at hc
              rw [h3 y (by omega) hb']
              exact Classical.byContradiction fun q => hc (by rw [show wtS σ k = 0 by omega]; decide)
            · have h4' : b = nI (wtS σ x) := h4
              have := h6 y (by omega) hb'
              rw [h4'] at hc
              have hw12 : wtS σ x ≤ 12 := by
                have := (wt_size hy (k := x) (by omega)).2
                unfold wtS; split <;> omega
              exact Classical.byContradiction fun q => hc (nI_le (by omega) (by omega))
      · rw [if_neg (fun q => hb ((bit_k m hm k (by omega)).mp q))]
        exact skip (fun q => absurd q hb) (fun _ _ q => absurd q hb)
    · have ew : wtS σ k = 0 := if_neg ht
      rw [toldAt_f hn hy.2.1 hk ht, hy.2.1, if_neg (nI_ge hk (by omega)), ob_s, oc_nn, f_X7_greatestBut_58_e, nI_1]
      exact skip (fun _ => ⟨fun _ => ew, fun x _ _ _ => by rw [ew]; omega⟩) (fun _ _ _ => ew)
  · intro f ⟨a, b⟩ h
    refine ⟨a, ?_, ?_⟩
    · show f_X7_greatestBut_7 21 (nI m) σ (f + 1) a b (nI n) = _
      rw [f_X7_greatestBut_7_s, hy.2.1, if_pos (nI_le (Nat.le_refl n) (by omega))]
    · rcases h with ⟨h1, -, h3⟩ | ⟨x, h1, h2, h3, -, h5, h6, h7⟩
      · exact Or.inl ⟨h1, h3⟩
      · exact Or.inr ⟨x, h1, h2, h3, h5, h6, h7⟩
