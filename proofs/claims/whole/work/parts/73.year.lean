/-! PURE: year, a statement done on both sides -/
theorem dig_v {c : Int32} (h : isD c = true) : ∃ v : Nat, v < 10 ∧ c = nI (48 + v) := by
  obtain ⟨h1, h2⟩ := isD_iff.mp h
  rw [i32_le] at h1 h2
  have e1 : (48 : Int32).toInt = 48 := rfl
  have e2 : (57 : Int32).toInt = 57 := rfl
  rw [e1] at h1
  rw [e2] at h2
  exact ⟨c.toInt.toNat - 48, by omega, Int32.toInt_inj.mp (by rw [nI_toInt (by omega)]; omega)⟩
theorem nu_rng {T : Nat → Int32} {p : Nat} : ∀ D : Nat, (∀ j : Nat, j < D → isD (T (p + j)) = true) → ∃ v : Nat, v < 10 ^ D ∧ nuS T p D = nI v
  | 0, _ => ⟨0, by decide, rfl⟩
  | D + 1, h => by
    obtain ⟨v, hv, e⟩ := nu_rng D (fun j hj => h j (by omega))
    obtain ⟨w, hw, e2⟩ := dig_v (h D (by omega))
    refine ⟨10 * v + w, ?_, ?_⟩
    · rw [Nat.pow_succ]
      omega
    · rw [nu_s, e, e2, show (10 : Int32) = nI 10 from rfl, pk_mul, nI_add, show (48 : Int32) = nI 48 from rfl, pk_sub (by omega)]
      congr 1
      omega
theorem num_c {σ : St} {i N p D : Nat} {T : Nat → Int32} (h : Tc σ i T N) (hp : p + D ≤ N) : f_X5_number i (nI p) (nI D) σ = some (nuS T p D) := by
  have hN := h.1
  unfold f_X5_number
  refine loop_q (fun f a j => f_X5_number_5 i (nI p) (nI D) σ f a (nI (p + j))) (nuS T p) D _ ?_ ?_ fu (fu_gt (by omega))
  · intro f j hj
    show f_X5_number_5 i (nI p) (nI D) σ (f + 1) _ (nI (p + j)) = f_X5_number_5 i (nI p) (nI D) σ f _ (nI (p + (j + 1)))
    rw [f_X5_number_5_s, nI_add, if_neg (nI_ge (a := p + j) (by omega) (by omega)), tc_cell h (by omega), ob_s, nI_1]
    rfl
  · intro f
    show f_X5_number_5 i (nI p) (nI D) σ (f + 1) _ (nI (p + D)) = _
    rw [f_X5_number_5_s, nI_add, if_pos (nI_le (Nat.le_refl _) (by omega))]
/-- the trial year, and the reference's row beside it -/
def YT (ρ : St) (n : Nat) : Prop := n ≤ 10 ∧ ρ 34 2 = nI n ∧ (∃ t : Nat, t ≤ 365 ∧ ρ 34 3 = nI t) ∧ ∀ k : Nat, k < n → DOk ρ (34 + 1 + 2 + k)
def YQ (ρ τ : St) (n : Nat) : Prop := τ 62 0 = nI n ∧ τ 62 1 = ρ 34 3 ∧ ∀ k : Nat, k < n → ∀ j : Nat, j < 5 → τ 62 (2 + 5 * k + j) = ρ (34 + 1 + 2 + k) j
def Fc (ρ ρ' : St) : Prop := ∀ i : Nat, i < 34 ∨ 47 ≤ i → ρ' i = ρ i
theorem add_two {ρ : St} {n a b v w s : Nat} (h : YT ρ n) (hn : n < 10) (ha : a < 8) (hb : b < 10) (hv : v < 365) (hw : w < 5) (hs : s < 32) : ∃ ρ', f_X7_add 34 (nI a) (nI b) (nI v) (nI w) (nI s) ρ = some (true, ρ') ∧ Fc ρ ρ' ∧ YT ρ' (n + 1) ∧ ∀ τ : St, YQ ρ τ n → ∃ τ', f_X9_adds 62 (nI a) (nI b) (nI v) (nI w) (nI s) τ = some τ' ∧ (∀ i : Nat, i ≠ 62 → τ' i = τ i) ∧ YQ ρ' τ' (n + 1) := by
  obtain ⟨g1, g2, g3, g4⟩ := h
  obtain ⟨ρ', c1, c2, c3, c4, c5, c6, c7, c8, c9, c10⟩ := add_c g2 hn ha hb hv hw hs
  refine ⟨ρ', c1, fun i hi => c5 i (by omega) (by omega), ⟨by omega, c3, ?_, fun k hk => ?_⟩, fun τ q => ?_⟩
  · rw [c4 3 (by decide)]; exact g3
  · by_cases hkn : k = n
    · rw [hkn]; exact c2
    · exact (g4 k (by omega)).congr (c5 _ (by omega) (by omega))
  · obtain ⟨q1, q2, q3⟩ := q
    obtain ⟨τ', r1, r2, r3, r4, r5, r6, r7, r8, r9⟩ := adds_r (σ := τ) (r := 62) (nI a) (nI b) (nI v) (nI w) (nI s) q1 hn
    refine ⟨τ', r1, r2, r3, ?_, fun k hk j hj => ?_⟩
    · rw [r4 1 (by decide) (by omega), q2, c4 3 (by decide)]
    · by_cases hkn : k = n
      · subst hkn
        have : j = 0 ∨ j = 1 ∨ j = 2 ∨ j = 3 ∨ j = 4 := by omega
        rcases this with rfl | rfl | rfl | rfl | rfl
        · rw [r5, c6]
        · rw [r6, c7]
        · rw [r7, c8]
        · rw [r8, c9]
        · rw [r9, c10]
      · rw [r4 _ (by omega) (by omega), c5 (34 + 1 + 2 + k) (by omega) (by omega)]
        exact q3 k (by omega) j hj
theorem turn_two {ρ : St} {n k p : Nat} (h : YT ρ n) (hk : k < n) (hp : p < 5) (hw : ¬ ρ (34 + 1 + 2 + k) 3 = nI p) : YT (up ρ (34 + 1 + 2 + k) 4 (ρ (34 + 1 + 2 + k) 4 ^^^ ((1 : Int32) <<< (nI p &&& 31)))) n ∧ ∀ τ : St, YQ ρ τ n → YQ (up ρ (34 + 1 + 2 + k) 4 (ρ (34 + 1 + 2 + k) 4 ^^^ ((1 : Int32) <<< (nI p &&& 31)))) (up τ 62 (2 + 5 * k + 4) (ρ (34 + 1 + 2 + k) 4 ^^^ ((1 : Int32) <<< (nI p &&& 31)))) n := by
  obtain ⟨g1, g2, g3, g4⟩ := h
  have e34 : ∀ v : Int32, up ρ (34 + 1 + 2 + k) 4 v 34 = ρ 34 := fun v => up_n (by omega)
  refine ⟨⟨g1, by rw [e34]; exact g2, by rw [e34]; exact g3, fun j hj => ?_⟩, fun τ q => ?_⟩
  · by_cases hjk : j = k
    · subst hjk
      obtain ⟨a, b, d, w, s, ha, hb, hd, hw5, hs, ht, q0, q1, q2, q3, q4, q5, q6⟩ := g4 j hj
      rw [q3] at hw
      obtain ⟨u, hu1, hu2, hu3⟩ := turn_bit s hs w hw5 p hp (fun z => hw (by rw [z])) ht
      unfold DOk
      rw [up_s]
      exact ⟨a, b, d, w, u, ha, hb, hd, hw5, hu1, hu2, q0, q1, q2, q3, by rw [pk_us, q4, hu3], q5, q6⟩
    · exact (g4 j hj).congr (up_n (by omega))
  · obtain ⟨q1, q2, q3⟩ := q
    refine ⟨by rw [up_s, pk_un (by omega)]; exact q1, by rw [up_s, pk_un (by omega), e34]; exact q2, fun j hj i hi => ?_⟩
    rw [up_s]
    by_cases hjk : j = k
    · subst hjk
      rw [up_s]
      by_cases h4 : i = 4
      · subst h4; rw [pk_us, pk_us]
      · rw [pk_un (by omega), pk_un h4]
        exact q3 j hj i hi
    · rw [pk_un (by omega), up_n (by omega)]
      exact q3 j hj i hi
theorem isd_in {x : Int32} {τ : St} {n : Nat} (hn : n ≤ 10) (h : τ 62 0 = nI n) (k : Nat) (hk : k < 100) (e : x = nI k) : f_X9_isDeed x τ = some (decide (k < n)) := by
  obtain ⟨b, hb, hi⟩ := deed_iff (x := x) hn h
  rw [hb]
  refine congrArg some ?_
  by_cases c : k < n
  · rw [decide_eq_true c]; exact hi.mpr ⟨k, c, e⟩
  · rw [decide_eq_false c]
    cases b
    · rfl
    · obtain ⟨j, hj, ej⟩ := hi.mp rfl
      rw [e, nI_eq (by omega) (by omega)] at ej
      exact absurd (ej ▸ hj) c
/-- what isDone may touch -/
def F2 (τ τ' : St) : Prop := ∀ i : Nat, i ≠ 62 → τ' i = τ i
theorem has_n : ∀ s : Nat, s < 32 → ∀ w : Nat, w < 5 → (f_X9_has (nI s) (nI w) = true ↔ ¬ ((nI s >>> (nI w &&& 31)) &&& (1 : Int32) = 0)) := by decide +kernel
theorem done_d {ρ : St} {i N p n : Nat} {T : Nat → Int32} (hc : Tc ρ i T N) (h : YT ρ n) (hb : (rsS T N p).2 = true) (ht : T p = (100 : Int32)) : ∃ b ρ' n', f_X6_isDeedTaken i (nI p) 34 ρ = some (b, ρ') ∧ Fc ρ ρ' ∧ (b = true → YT ρ' n') ∧ ∀ τ : St, YQ ρ τ n → nmS τ T p → ∃ τ', f_X9_isDone (100 : Int32) τ = some (b, τ') ∧ F2 τ τ' ∧ (b = true → YQ ρ' τ' n') := by
  obtain ⟨hp, D, h1, h2, h3, h4, h5, h6, -⟩ := rs_up hb
  have hD : D = 8 := by rw [← h1, ht]; rfl
  subst hD
  have hg := dg_all _ _ h4
  have dgt : ∀ a : Nat, 1 ≤ a → a ≤ 8 → isD (T (p + a)) = true := fun a l1 l2 => by
    have := (hg (a - 1) (by omega)).2
    rw [show p + 1 + (a - 1) = p + a by omega] at this
    exact this
  obtain ⟨v0, l0, e0⟩ := nu_rng (T := T) (p := p + 1) 1 (fun j hj => by rw [Nat.add_assoc]; exact dgt (1 + j) (by omega) (by omega))
  obtain ⟨v1, l1, e1⟩ := nu_rng (T := T) (p := p + 2) 1 (fun j hj => by rw [Nat.add_assoc]; exact dgt (2 + j) (by omega) (by omega))
  obtain ⟨v2, l2, e2⟩ := nu_rng (T := T) (p := p + 3) 3 (fun j hj => by rw [Nat.add_assoc]; exact dgt (3 + j) (by omega) (by omega))
  obtain ⟨v3, l3, e3⟩ := nu_rng (T := T) (p := p + 6) 1 (fun j hj => by rw [Nat.add_assoc]; exact dgt (6 + j) (by omega) (by omega))
  obtain ⟨v4, l4, e4⟩ := nu_rng (T := T) (p := p + 7) 2 (fun j hj => by rw [Nat.add_assoc]; exact dgt (7 + j) (by omega) (by omega))
  have l0 : v0 < 10 := l0
  have l1 : v1 < 10 := l1
  have l2 : v2 < 1000 := l2
  have l3 : v3 < 10 := l3
  have l4 : v4 < 100 := l4
  have a0 : f_X5_number i (nI p + (1 : Int32)) (1 : Int32) ρ = some (nI v0) := by
    rw [nI_1, ← e0]; exact num_c (D := 1) hc (by omega)
  have a1 : f_X5_number i (nI p + (2 : Int32)) (1 : Int32) ρ = some (nI v1) := by
    rw [show nI p + (2 : Int32) = nI (p + 2) from nI_add p 2, ← e1]; exact num_c (D := 1) hc (by omega)
  have a2 : f_X5_number i (nI p + (3 : Int32)) (3 : Int32) ρ = some (nI v2) := by
    rw [show nI p + (3 : Int32) = nI (p + 3) from nI_add p 3, ← e2]; exact num_c (D := 3) hc (by omega)
  have a3 : f_X5_number i (nI p + (6 : Int32)) (1 : Int32) ρ = some (nI v3) := by
    rw [show nI p + (6 : Int32) = nI (p + 6) from nI_add p 6, ← e3]; exact num_c (D := 1) hc (by omega)
  have a4 : f_X5_number i (nI p + (7 : Int32)) (2 : Int32) ρ = some (nI v4) := by
    rw [show nI p + (7 : Int32) = nI (p + 7) from nI_add p 7, ← e4]; exact num_c (D := 2) hc (by omega)
  have rd : ∀ τ : St, nmS τ T p → τ 68 0 = nI v0 ∧ τ 68 1 = nI v1 ∧ τ 68 2 = nI v2 ∧ τ 68 3 = nI v3 ∧ τ 68 4 = nI v4 := by
    intro τ hτ
    obtain ⟨b0, b1, b2, b3, b4⟩ := hτ.1 ht
    exact ⟨b0.trans e0, b1.trans e1, b2.trans e2, b3.trans e3, b4.trans e4⟩
  have no : ∀ τ : St, F2 τ τ := fun τ i _ => rfl
  unfold f_X6_isDeedTaken
  rw [a0, ob_s, a1, ob_s, a2, ob_s, a3, ob_s, a4, ob_s]
  have day2 : f_X9_isDay (nI v2) = true ↔ v2 < 365 := day_iff.trans ⟨fun ⟨j, hj, ej⟩ => by rw [nI_eq (by omega) (by omega)] at ej; omega, fun z => ⟨v2, z, rfl⟩⟩
  have per3 : f_X9_isPerson (nI v3) = true ↔ v3 < 5 := person_iff.trans ⟨fun ⟨j, hj, ej⟩ => by rw [nI_eq (by omega) (by omega)] at ej; omega, fun z => ⟨v3, z, rfl⟩⟩
  by_cases k0 : v0 < 8
  · rw [if_neg (ge8 k0)]
    by_cases k2 : v2 < 365
    · rw [if_neg (gt364 (by omega))]
      by_cases k3 : v3 < 5
      · rw [if_neg (ge5 k3)]
        by_cases k4 : v4 < 32
        · rw [if_pos (show nI v4 ≤ (31 : Int32) from nI_le (b := 31) (by omega) (by decide))]
          by_cases k5 : (nI v4 >>> (nI v3 &&& 31)) &&& (1 : Int32) = 0
          · rw [if_pos k5]
            by_cases k6 : n = 10
            · have ea : f_X7_add 34 (nI v0) (nI v1) (nI v2) (nI v3) (nI v4) ρ = some (false, ρ) := by
                unfold f_X7_add
                rw [h.2.1, k6, if_neg (show ¬ nI 10 < (10 : Int32) by decide)]
              rw [ea, ob_s, if_neg (show ¬ (false, ρ).1 = true from Bool.false_ne_true)]
              refine ⟨false, ρ, n, rfl, fun _ _ => rfl, fun z => absurd z (by decide), fun τ q hτ => ⟨τ, ?_, no τ, fun z => absurd z Bool.false_ne_true⟩⟩
              obtain ⟨b0, b1, b2, b3, b4⟩ := rd τ hτ
              unfold f_X9_isDone
              rw [if_pos rfl, b0, b2, b3, b4, if_neg (ge8 k0), if_pos (day2.mpr k2), if_pos (per3.mpr k3), if_neg (show ¬ (31 : Int32) < nI v4 from nI_nlt (a := 31) (by omega) (by decide)), if_neg (fun z => ((has_n v4 k4 v3 k3).mp z) k5), q.1, k6, if_pos (show nI 10 = (10 : Int32) from rfl)]
            · obtain ⟨ρ', c1, c2, c3, c4⟩ := add_two h (by have := h.1; omega) k0 l1 k2 k3 k4
              rw [c1, ob_s, if_pos (show (true, ρ').1 = true from rfl)]
              refine ⟨true, ρ', n + 1, rfl, c2, fun _ => c3, fun τ q hτ => ?_⟩
              obtain ⟨b0, b1, b2, b3, b4⟩ := rd τ hτ
              obtain ⟨τ', d1, d2, d3⟩ := c4 τ q
              refine ⟨τ', ?_, d2, fun _ => d3⟩
              unfold f_X9_isDone
              rw [if_pos rfl, b0, b1, b2, b3, b4, if_neg (ge8 k0), if_pos (day2.mpr k2), if_pos (per3.mpr k3), if_neg (show ¬ (31 : Int32) < nI v4 from nI_nlt (a := 31) (by omega) (by decide)), if_neg (fun z => ((has_n v4 k4 v3 k3).mp z) k5), q.1, if_neg (show ¬ nI n = (10 : Int32) from fun z => k6 ((nI_eq (b := 10) (by have := h.1; omega) (by decide)).mp z)), d1, ob_s]
          · rw [if_neg k5]
            refine ⟨false, ρ, n, rfl, fun _ _ => rfl, fun z => absurd z (by decide), fun τ q hτ => ⟨τ, ?_, no τ, fun z => absurd z Bool.false_ne_true⟩⟩
            obtain ⟨b0, b1, b2, b3, b4⟩ := rd τ hτ
            unfold f_X9_isDone
            rw [if_pos rfl, b0, b2, b3, b4, if_neg (ge8 k0), if_pos (day2.mpr k2), if_pos (per3.mpr k3), if_neg (show ¬ (31 : Int32) < nI v4 from nI_nlt (a := 31) (by omega) (by decide)), if_pos ((has_n v4 k4 v3 k3).mpr k5)]
        · rw [if_neg (show ¬ nI v4 ≤ (31 : Int32) from nI_ge (a := 31) (by omega) (by omega))]
          refine ⟨false, ρ, n, rfl, fun _ _ => rfl, fun z => absurd z (by decide), fun τ q hτ => ⟨τ, ?_, no τ, fun z => absurd z Bool.false_ne_true⟩⟩
          obtain ⟨b0, b1, b2, b3, b4⟩ := rd τ hτ
          unfold f_X9_isDone
          rw [if_pos rfl, b0, b2, b3, b4, if_neg (ge8 k0), if_pos (day2.mpr k2), if_pos (per3.mpr k3), if_pos (show (31 : Int32) < nI v4 from nI_lt (a := 31) (by omega) (by omega))]
      · rw [if_pos (show (5 : Int32) ≤ nI v3 from nI_le (a := 5) (by omega) (by omega))]
        refine ⟨false, ρ, n, rfl, fun _ _ => rfl, fun z => absurd z (by decide), fun τ q hτ => ⟨τ, ?_, no τ, fun z => absurd z Bool.false_ne_true⟩⟩
        obtain ⟨b0, b1, b2, b3, b4⟩ := rd τ hτ
        unfold f_X9_isDone
        rw [if_pos rfl, b0, b2, b3, if_neg (ge8 k0), if_pos (day2.mpr k2), if_neg (fun z => k3 (per3.mp z))]
    · rw [if_pos (show (364 : Int32) < nI v2 from nI_lt (a := 364) (by omega) (by omega))]
      refine ⟨false, ρ, n, rfl, fun _ _ => rfl, fun z => absurd z (by decide), fun τ q hτ => ⟨τ, ?_, no τ, fun z => absurd z Bool.false_ne_true⟩⟩
      obtain ⟨b0, b1, b2, b3, b4⟩ := rd τ hτ
      unfold f_X9_isDone
      rw [if_pos rfl, b0, b2, if_neg (ge8 k0), if_neg (fun z => k2 (day2.mp z))]
  · rw [if_pos (show (8 : Int32) ≤ nI v0 from nI_le (a := 8) (by omega) (by omega))]
    refine ⟨false, ρ, n, rfl, fun _ _ => rfl, fun z => absurd z (by decide), fun τ q hτ => ⟨τ, ?_, no τ, fun z => absurd z Bool.false_ne_true⟩⟩
    obtain ⟨b0, b1, b2, b3, b4⟩ := rd τ hτ
    unfold f_X9_isDone
    rw [if_pos rfl, b0, if_pos (show (8 : Int32) ≤ nI v0 from nI_le (a := 8) (by omega) (by omega))]
