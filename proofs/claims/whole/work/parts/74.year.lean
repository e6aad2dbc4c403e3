/-! PURE: year, the second way over the text -/
theorem done_t {ρ : St} {i N p n : Nat} {T : Nat → Int32} (hc : Tc ρ i T N) (h : YT ρ n) (hb : (rsS T N p).2 = true) (ht : T p = (116 : Int32)) : ∃ b ρ', (ob (f_X5_number i (nI p + (1 : Int32)) (3 : Int32) ρ) (fun q7 => ob (f_X6_isTodayTaken q7 34 ρ) (fun q9 => some (q9.1, q9.2)))) = some (b, ρ') ∧ Fc ρ ρ' ∧ (b = true → YT ρ' n) ∧ ∀ τ : St, YQ ρ τ n → nmS τ T p → ∃ τ', f_X9_isDone (116 : Int32) τ = some (b, τ') ∧ F2 τ τ' ∧ (b = true → YQ ρ' τ' n) := by
  obtain ⟨hp, D, h1, h2, h3, h4, h5, h6, -⟩ := rs_up hb
  have hD : D = 3 := by rw [← h1, ht]; rfl
  subst hD
  have hg := dg_all _ _ h4
  obtain ⟨v, l0, e0⟩ := nu_rng (T := T) (p := p + 1) 3 (fun j hj => (hg j hj).2)
  have l0 : v < 1000 := l0
  have a0 : f_X5_number i (nI p + (1 : Int32)) (3 : Int32) ρ = some (nI v) := by
    rw [nI_1, ← e0]; exact num_c (D := 3) hc (by omega)
  rw [a0, ob_s]
  unfold f_X6_isTodayTaken
  obtain ⟨g1, g2, g3, g4⟩ := h
  have e34 : ∀ k : Nat, up ρ 34 3 (nI v) (34 + 1 + 2 + k) = ρ (34 + 1 + 2 + k) := fun k => up_n (by omega)
  by_cases k0 : v ≤ 365
  · rw [if_pos (show nI v ≤ (365 : Int32) from nI_le (b := 365) k0 (by decide))]
    refine ⟨true, up ρ 34 3 (nI v), rfl, fun j hj => up_n (by omega), fun _ => ⟨g1, by rw [up_s, pk_un (by decide)]; exact g2, ⟨v, k0, by rw [up_s, pk_us]⟩, fun k hk => (g4 k hk).congr (e34 k)⟩, fun τ q hτ => ?_⟩
    have b0 : τ 68 0 = nI v := (hτ.2.1 ht).trans e0
    refine ⟨up τ 62 1 (nI v), ?_, fun j hj => up_n hj, fun _ => ⟨by rw [up_s, pk_un (by decide)]; exact q.1, by rw [up_s, pk_us, up_s, pk_us], fun k hk j hj => ?_⟩⟩
    · unfold f_X9_isDone
      rw [if_neg (by decide), if_pos rfl, b0, if_neg (gt365 k0)]
    · rw [up_s, pk_un (by omega), e34]
      exact q.2.2 k hk j hj
  · rw [if_neg (show ¬ nI v ≤ (365 : Int32) from nI_ge (a := 365) (by omega) (by omega))]
    refine ⟨false, ρ, rfl, fun j hj => rfl, fun z => absurd z (by decide), fun τ q hτ => ?_⟩
    have b0 : τ 68 0 = nI v := (hτ.2.1 ht).trans e0
    refine ⟨up τ 62 1 (nI v), ?_, fun j hj => up_n hj, fun z => absurd z Bool.false_ne_true⟩
    unfold f_X9_isDone
    rw [if_neg (by decide), if_pos rfl, b0, if_pos (lt365 (by omega) (by omega))]
theorem done_s {ρ : St} {i N p n : Nat} {T : Nat → Int32} (hc : Tc ρ i T N) (h : YT ρ n) (hb : (rsS T N p).2 = true) (ht : T p = (115 : Int32)) : ∃ b ρ', (ob (f_X5_number i (nI p + (1 : Int32)) (1 : Int32) ρ) (fun q11 => ob (f_X5_number i (nI p + (2 : Int32)) (1 : Int32) ρ) (fun q13 => ob (f_X6_isSightTaken q11 q13 34 ρ) (fun q15 => some (q15.1, q15.2))))) = some (b, ρ') ∧ Fc ρ ρ' ∧ (b = true → YT ρ' n) ∧ ∀ τ : St, YQ ρ τ n → nmS τ T p → ∃ τ', f_X9_isDone (115 : Int32) τ = some (b, τ') ∧ F2 τ τ' ∧ (b = true → YQ ρ' τ' n) := by
  obtain ⟨hp, D, h1, h2, h3, h4, h5, h6, -⟩ := rs_up hb
  have hD : D = 2 := by rw [← h1, ht]; rfl
  subst hD
  have hg := dg_all _ _ h4
  obtain ⟨v, l0, e0⟩ := nu_rng (T := T) (p := p + 1) 1 (fun j hj => (hg j (by omega)).2)
  obtain ⟨w, l1, e1⟩ := nu_rng (T := T) (p := p + 2) 1 (fun j hj => by
    have := (hg (j + 1) (by omega)).2
    rw [show p + 1 + (j + 1) = p + 2 + j by omega] at this
    exact this)
  have l0 : v < 10 := l0
  have l1 : w < 10 := l1
  have a0 : f_X5_number i (nI p + (1 : Int32)) (1 : Int32) ρ = some (nI v) := by
    rw [nI_1, ← e0]; exact num_c (D := 1) hc (by omega)
  have a1 : f_X5_number i (nI p + (2 : Int32)) (1 : Int32) ρ = some (nI w) := by
    rw [show nI p + (2 : Int32) = nI (p + 2) from nI_add p 2, ← e1]; exact num_c (D := 1) hc (by omega)
  rw [a0, ob_s, a1, ob_s]
  have rd : ∀ τ : St, nmS τ T p → τ 68 0 = nI v ∧ τ 68 1 = nI w := fun τ hτ => ⟨(hτ.2.2 ht).1.trans e0, (hτ.2.2 ht).2.trans e1⟩
  have per : f_X9_isPerson (nI w) = true ↔ w < 5 := person_iff.trans ⟨fun ⟨j, hj, ej⟩ => by rw [nI_eq (by omega) (by omega)] at ej; omega, fun z => ⟨w, z, rfl⟩⟩
  have hn := h.1
  have h2' := h.2.1
  unfold f_X6_isSightTaken
  by_cases k0 : v < n
  · rw [deedAt_y hn h2' k0]
    show ∃ b ρ', (ob (if (5 : Int32) ≤ nI w then _ else _) _) = some (b, ρ') ∧ _
    by_cases k1 : w < 5
    · rw [if_neg (ge5 k1)]
      by_cases k2 : ρ (34 + 1 + 2 + v) 3 = nI w
      · rw [if_pos k2]
        refine ⟨false, ρ, rfl, fun _ _ => rfl, fun z => absurd z (by decide), fun τ q hτ => ⟨τ, ?_, fun _ _ => rfl, fun z => absurd z Bool.false_ne_true⟩⟩
        obtain ⟨b0, b1⟩ := rd τ hτ
        unfold f_X9_isDone
        rw [if_neg (by decide), if_neg (by decide), b0, b1, isd_in hn q.1 v (by omega) rfl, ob_s, decide_eq_true k0, if_pos rfl, if_pos (per.mpr k1), if_pos (ofi3 (k := v) (by omega)), ofc3 (k := v) (by omega), q.2.2 v k0 3 (by decide), if_pos k2]
      · rw [if_neg k2]
        obtain ⟨t1, t2⟩ := turn_two h k0 k1 k2
        have et : f_X1_turnSeen (34 + 1 + 2 + v) (nI w) ρ = some (up ρ (34 + 1 + 2 + v) 4 (ρ (34 + 1 + 2 + v) 4 ^^^ ((1 : Int32) <<< (nI w &&& 31)))) := rfl
        rw [et]
        refine ⟨true, _, rfl, fun j hj => up_n (by omega), fun _ => t1, fun τ q hτ => ⟨_, ?_, fun j hj => up_n hj, fun _ => t2 τ q⟩⟩
        obtain ⟨b0, b1⟩ := rd τ hτ
        unfold f_X9_isDone
        rw [if_neg (by decide), if_neg (by decide), b0, b1, isd_in hn q.1 v (by omega) rfl, ob_s, decide_eq_true k0, if_pos rfl, if_pos (per.mpr k1), if_pos (ofi3 (k := v) (by omega)), ofc3 (k := v) (by omega), q.2.2 v k0 3 (by decide), if_neg k2, if_pos (ofi4 (k := v) (by omega)), if_pos (ofi4 (k := v) (by omega)), ofc4 (k := v) (by omega), q.2.2 v k0 4 (by decide)]
    · rw [if_pos (show (5 : Int32) ≤ nI w from nI_le (a := 5) (by omega) (by omega))]
      refine ⟨false, ρ, rfl, fun _ _ => rfl, fun z => absurd z (by decide), fun τ q hτ => ⟨τ, ?_, fun _ _ => rfl, fun z => absurd z Bool.false_ne_true⟩⟩
      obtain ⟨b0, b1⟩ := rd τ hτ
      unfold f_X9_isDone
      rw [if_neg (by decide), if_neg (by decide), b0, b1, isd_in hn q.1 v (by omega) rfl, ob_s, decide_eq_true k0, if_pos rfl, if_neg (fun z => k1 (per.mp z))]
  · have hno : ¬ isN (nI v) n := fun ⟨j, hj, ej⟩ => by rw [nI_eq (by omega) (by omega)] at ej; omega
    rw [deedAt_n hn h2' hno]
    refine ⟨false, ρ, rfl, fun _ _ => rfl, fun z => absurd z (by decide), fun τ q hτ => ⟨τ, ?_, fun _ _ => rfl, fun z => absurd z Bool.false_ne_true⟩⟩
    obtain ⟨b0, b1⟩ := rd τ hτ
    unfold f_X9_isDone
    rw [if_neg (by decide), if_neg (by decide), b0, isd_in hn q.1 v (by omega) rfl, ob_s, decide_eq_false k0, if_neg (by decide)]
theorem taken_two {ρ : St} {i N p n : Nat} {T : Nat → Int32} (hc : Tc ρ i T N) (h : YT ρ n) (hb : (rsS T N p).2 = true) (hr : ∀ j : Nat, j < N → -128 ≤ (T j).toInt ∧ (T j).toInt ≤ 127) : ∃ b ρ' n', f_X6_isTaken i (nI p) 34 ρ = some (b, ρ') ∧ Fc ρ ρ' ∧ (b = true → YT ρ' n') ∧ ∀ τ : St, YQ ρ τ n → nmS τ T p → ∃ τ', f_X9_isDone (T p &&& (255 : Int32)) τ = some (b, τ') ∧ F2 τ τ' ∧ (b = true → YQ ρ' τ' n') := by
  obtain ⟨hp, D, h1, h2, -⟩ := rs_up hb
  obtain ⟨-, b1, b2, b3, -⟩ := byte_i (hr p hp).1 (hr p hp).2
  unfold f_X6_isTaken
  rw [tc_cell hc hp, ob_s]
  by_cases c1 : T p = (100 : Int32)
  · obtain ⟨b, ρ', n', r1, r2, r3, r4⟩ := done_d hc h hb c1
    rw [if_pos c1, r1, ob_s, b1.mpr c1]
    exact ⟨b, ρ', n', rfl, r2, r3, r4⟩
  · rw [if_neg c1]
    by_cases c2 : T p = (116 : Int32)
    · obtain ⟨b, ρ', r1, r2, r3, r4⟩ := done_t hc h hb c2
      rw [if_pos c2, r1, b3.mpr c2]
      exact ⟨b, ρ', n, rfl, r2, r3, r4⟩
    · have c3 : T p = (115 : Int32) := Classical.byContradiction fun c3 => h2 (by
        rw [← h1]
        unfold diS
        rw [if_neg c1, if_neg c3, if_neg c2])
      obtain ⟨b, ρ', r1, r2, r3, r4⟩ := done_s hc h hb c3
      rw [if_neg c2, r1, b2.mpr c3]
      exact ⟨b, ρ', n, rfl, r2, r3, r4⟩
theorem Tc.fc {ρ ρ' : St} {i N : Nat} {T : Nat → Int32} (h : Tc ρ i T N) (g : Fc ρ ρ') (hi : i < 33) : Tc ρ' i T N := by
  obtain ⟨h1, h2, h3⟩ := h
  exact ⟨h1, by rw [g i (by omega)]; exact h2, fun j hj => by rw [g (i + 1) (by omega)]; exact h3 j hj⟩
/-- what the second way may touch in the reference -/
def G2 (τ τ' : St) : Prop := (∀ i : Nat, i ≠ 61 → i ≠ 62 → i ≠ 68 → τ' i = τ i) ∧ ∀ j : Nat, j ≠ 9 → τ' 61 j = τ 61 j
/-- a place where a statement begins -/
def stA (T : Nat → Int32) (N p : Nat) : Prop := p = 0 ∨ ∃ k : Nat, p = k + 1 ∧ k < N ∧ T k = (59 : Int32)
theorem fw_start {ρ : St} {i N p f : Nat} {T : Nat → Int32} (hc : Tc ρ i T N) (hp : p < N) (hs : stA T N p) : f_X6_firstWrongStatement_2 i 34 (f + 1) (nI p) ρ = ob (f_X6_isTaken i (nI p) 34 ρ) (fun q3 => if q3.1 = true then f_X6_firstWrongStatement_2 i 34 f (nI p + (1 : Int32)) q3.2 else some (nI p, q3.2)) := by
  have hN := hc.1
  rw [f_X6_firstWrongStatement_2_s, hc.2.1, if_neg (nI_ge (a := p) (b := N) (by omega) (by omega))]
  rcases hs with rfl | ⟨k, rfl, hk, ek⟩
  · rw [if_pos (show nI 0 = 0 from rfl), f_X6_firstWrongStatement_26_e, f_X6_firstWrongStatement_31_e, if_neg (by decide)]
    rfl
  · rw [if_neg (nI_ne0 (by omega) (by omega)), nI_pred, tc_cell hc hk, ob_s, if_pos ek, f_X6_firstWrongStatement_26_e, f_X6_firstWrongStatement_31_e, if_neg (by decide)]
    rfl
theorem fw_skip {ρ : St} {i N p f : Nat} {T : Nat → Int32} (hc : Tc ρ i T N) (hp : p + 1 < N) (hs : ¬ T p = (59 : Int32)) : f_X6_firstWrongStatement_2 i 34 (f + 1) (nI (p + 1)) ρ = f_X6_firstWrongStatement_2 i 34 f (nI (p + 1 + 1)) ρ := by
  have hN := hc.1
  rw [f_X6_firstWrongStatement_2_s, hc.2.1, if_neg (nI_ge (a := p + 1) (b := N) (by omega) (by omega)), if_neg (nI_ne0 (by omega) (by omega)), nI_pred, tc_cell hc (by omega), ob_s, if_neg hs, f_X6_firstWrongStatement_31_e, if_pos rfl, f_X6_firstWrongStatement_47_e, nI_1]
theorem fw_run {ρ : St} {i N f : Nat} {T : Nat → Int32} (hc : Tc ρ i T N) : ∀ (k p : Nat), (∀ j : Nat, j < k → p + j + 1 < N ∧ ¬ T (p + j) = (59 : Int32)) → f_X6_firstWrongStatement_2 i 34 (f + k) (nI (p + 1)) ρ = f_X6_firstWrongStatement_2 i 34 f (nI (p + 1 + k)) ρ
  | 0, _, _ => rfl
  | k + 1, p, h => by
    have h0 : p + 1 < N ∧ ¬ T p = (59 : Int32) := h 0 (by omega)
    rw [show f + (k + 1) = (f + k) + 1 by omega, fw_skip hc h0.1 h0.2, fw_run hc k (p + 1) (fun j hj => by
      have := h (j + 1) (by omega)
      rw [show p + 1 + j = p + (j + 1) by omega]
      exact ⟨by omega, this.2⟩), show p + 1 + 1 + k = p + 1 + (k + 1) by omega]
theorem second_two {i d N : Nat} {T : Nat → Int32} {x1 : Int32} (hi : i < 33) (hr : ∀ j : Nat, j < N → -128 ≤ (T j).toInt ∧ (T j).toInt ≤ 127) : ∀ (m p f1 n : Nat) (ρ : St), gdS T N m p → N < p + f1 → stA T N p → Tc ρ i T N → YT ρ n → (∃ q ρ', q ≤ N ∧ f_X6_firstWrongStatement_2 i 34 f1 (nI p) ρ = some (nI q, ρ') ∧ Fc ρ ρ' ∧ ∀ (f2 : Nat) (v3 : Int32) (τ : St), m + 1 < f2 → Tr τ d T N → τ 61 9 = nI p → YQ ρ τ n → ∃ τ', f_X9_year_93 x1 f2 v3 0 τ = some ((-2000 : Int32) - nI q, τ') ∧ G2 τ τ' ∧ ∀ j : Nat, j < 52 → τ' 62 j = τ 65 j) ∨ (∃ n' ρ', f_X6_firstWrongStatement_2 i 34 f1 (nI p) ρ = some (-1, ρ') ∧ Fc ρ ρ' ∧ YT ρ' n' ∧ ∀ (f2 : Nat) (τ : St), m + 1 < f2 → Tr τ d T N → τ 61 9 = nI p → YQ ρ τ n → ∀ v3 : Int32, ∃ τ', f_X9_year_93 x1 f2 v3 0 τ = some (v3, τ') ∧ G2 τ τ' ∧ YQ ρ' τ' n') := by
  intro m
  induction m with
  | zero =>
    intro p f1 n ρ hg hf hst hc h
    have hN := hc.1
    have hp : p = N := hg
    subst hp
    obtain ⟨f1, rfl⟩ : ∃ g, f1 = g + 1 := ⟨f1 - 1, by omega⟩
    rw [f_X6_firstWrongStatement_2_s, hc.2.1, if_pos (nI_le (Nat.le_refl p) (by omega))]
    refine Or.inr ⟨n, ρ, rfl, fun _ _ => rfl, h, fun f2 τ hf2 ht he hq v3 => ?_⟩
    obtain ⟨f2, rfl⟩ : ∃ g, f2 = g + 1 := ⟨f2 - 1, by omega⟩
    rw [f_X9_year_93_s, if_pos rfl, ht.2.2.2.1, he, if_pos (nI_le (Nat.le_refl p) (by omega)), f_X9_year_161_e, if_pos rfl]
    exact ⟨τ, rfl, ⟨fun _ _ _ _ => rfl, fun _ _ => rfl⟩, hq⟩
  | succ m ih =>
    intro p f1 n ρ hg hf hst hc h
    have hN := hc.1
    obtain ⟨hp, hb, hg⟩ := hg
    obtain ⟨-, D, u1, u2, u3, u4, u5, u6, u7⟩ := rs_up hb
    have ug := dg_all _ _ u4
    obtain ⟨f1, rfl⟩ : ∃ g, f1 = g + 1 := ⟨f1 - 1, by omega⟩
    obtain ⟨b, ρ', n', r1, r2, r3, r4⟩ := taken_two hc h hb hr
    rw [fw_start hc hp hst, r1, ob_s]
    have ref : ∀ (f2 : Nat) (v3 : Int32) (τ : St), Tr τ d T N → τ 61 9 = nI p → YQ ρ τ n → ∃ τ1 τ', Rd τ τ1 ∧ F2 τ1 τ' ∧ τ1 61 9 = nI (rsS T N p).1 ∧ (b = true → YQ ρ' τ' n') ∧ f_X9_year_93 x1 (f2 + 1) v3 0 τ = if b = true then f_X9_year_93 x1 f2 v3 0 τ' else ob (f_X9_copies 65 62 τ') (fun q19 => f_X9_year_93 x1 f2 v3 ((-2000 : Int32) - nI p) q19) := by
      intro f2 v3 τ ht he hq
      obtain ⟨τ1, s1, s2, s3, s4⟩ := st_r ht he (by omega)
      have hq1 : YQ ρ τ1 n := by
        unfold YQ
        rw [s2.1 62 (by decide) (by decide)]
        exact hq
      obtain ⟨τ', d1, d2, d3⟩ := r4 τ1 hq1 (s4 hb)
      refine ⟨τ1, τ', s2, d2, s3, d3, ?_⟩
      rw [f_X9_year_93_s, if_pos rfl, ht.2.2.2.1, he, if_neg (nI_ge (a := p) (b := N) (by omega) (by omega)), here_in ht he hp, ob_s, s1, ob_s]
      show (ob (f_X9_isDone (T p &&& (255 : Int32)) τ1) _) = _
      rw [d1, ob_s]
    cases b with
    | false =>
      rw [if_neg (show ¬ (false, ρ').1 = true from Bool.false_ne_true)]
      refine Or.inl ⟨p, ρ', by omega, rfl, r2, fun f2 v3 τ hf2 ht he hq => ?_⟩
      obtain ⟨f2, rfl⟩ : ∃ g, f2 = (g + 1) + 1 := ⟨f2 - 2, by omega⟩
      obtain ⟨τ1, τ', s1, s2, s3, -, s5⟩ := ref (f2 + 1) v3 τ ht he hq
      rw [s5, if_neg (by decide), copies_eq (by decide), ob_s, f_X9_year_93_s, if_neg (bad_ne p (by omega)).2, f_X9_year_161_e, if_neg (bad_ne p (by omega)).2]
      refine ⟨_, rfl, ⟨fun j a1 a2 a3 => ?_, fun j a1 => ?_⟩, fun j hj => ?_⟩
      · rw [cp52_n a2, s2 j a2, s1.1 j a1 a3]
      · rw [cp52_n (by decide), s2 61 (by decide), s1.2 j a1]
      · rw [cp52_j]
        show (if j < 52 then τ' 65 j else _) = _
        rw [if_pos hj, s2 65 (by decide), s1.1 65 (by decide) (by decide)]
    | true =>
      have hc' := hc.fc r2 hi
      rw [if_pos (show (true, ρ').1 = true from rfl)]
      obtain ⟨g1, rfl⟩ : ∃ g, f1 = g + (D + 1) := ⟨f1 - (D + 1), by omega⟩
      have hrun : ∀ j : Nat, j < D + 1 → p + j + 1 < N ∧ ¬ T (p + j) = (59 : Int32) := by
        intro j hj
        refine ⟨by omega, fun z => ?_⟩
        by_cases hj0 : j = 0
        · rw [hj0, Nat.add_zero] at z
          rw [z] at u1
          exact u2 (u1.symm.trans (by decide))
        · have := (ug (j - 1) (by omega)).2
          rw [show p + 1 + (j - 1) = p + j by omega, z] at this
          exact absurd this (by decide)
      have e0 : f_X6_firstWrongStatement_2 i 34 (g1 + (D + 1)) (nI p + (1 : Int32)) ρ' = f_X6_firstWrongStatement_2 i 34 g1 (nI (rsS T N p).1) ρ' := by
        rw [nI_1, fw_run hc' (D + 1) p hrun, u7, show p + 1 + (D + 1) = p + D + 2 by omega]
      have hst' : stA T N (rsS T N p).1 := Or.inr ⟨p + 1 + D, by rw [u7]; omega, u5, u6⟩
      have st : ∀ (f2 : Nat) (v3 : Int32) (τ : St), Tr τ d T N → τ 61 9 = nI p → YQ ρ τ n → ∃ τ', G2 τ τ' ∧ Tr τ' d T N ∧ τ' 61 9 = nI (rsS T N p).1 ∧ YQ ρ' τ' n' ∧ τ' 65 = τ 65 ∧ f_X9_year_93 x1 (f2 + 1) v3 0 τ = f_X9_year_93 x1 f2 v3 0 τ' := by
        intro f2 v3 τ ht he hq
        obtain ⟨τ1, τ', s1, s2, s3, s4, s5⟩ := ref f2 v3 τ ht he hq
        rw [if_pos rfl] at s5
        have hG : G2 τ τ' := ⟨fun j a1 a2 a3 => by rw [s2 j a2, s1.1 j a1 a3], fun j a1 => by rw [s2 61 (by decide), s1.2 j a1]⟩
        refine ⟨τ', hG, ?_, by rw [s2 61 (by decide)]; exact s3, s4 rfl, by rw [hG.1 65 (by decide) (by decide) (by decide)], s5⟩
        obtain ⟨h1, h2, h3, h4, h5, h6⟩ := ht
        exact ⟨h1, h2, by rw [hG.2 10 (by decide)]; exact h3, by rw [hG.2 11 (by decide)]; exact h4, fun j hj => by rw [hG.1 74 (by decide) (by decide) (by decide)]; exact h5 j hj, h6⟩
      rcases ih (rsS T N p).1 g1 n' ρ' hg (by omega) hst' hc' (r3 rfl) with ⟨q, ρ'', q1, q2, q3, q4⟩ | ⟨n'', ρ'', q2, q3, q5, q4⟩
      · refine Or.inl ⟨q, ρ'', q1, ?_, fun j hj => (q3 j hj).trans (r2 j hj), fun f2 v3 τ hf2 ht he hq => ?_⟩
        · show f_X6_firstWrongStatement_2 i 34 (g1 + (D + 1)) (nI p + (1 : Int32)) ρ' = _
          rw [e0, q2]
        · obtain ⟨f2, rfl⟩ : ∃ g, f2 = g + 1 := ⟨f2 - 1, by omega⟩
          obtain ⟨τ', s1, s2, s3, s4, s5, s6⟩ := st f2 v3 τ ht he hq
          obtain ⟨π, w1, w2, w3⟩ := q4 f2 v3 τ' (by omega) s2 s3 s4
          exact ⟨π, s6.trans w1, ⟨fun j a b c => (w2.1 j a b c).trans (s1.1 j a b c), fun j a => (w2.2 j a).trans (s1.2 j a)⟩, fun j hj => by rw [w3 j hj, s5]⟩
      · refine Or.inr ⟨n'', ρ'', ?_, fun j hj => (q3 j hj).trans (r2 j hj), q5, fun f2 τ hf2 ht he hq v3 => ?_⟩
        · show f_X6_firstWrongStatement_2 i 34 (g1 + (D + 1)) (nI p + (1 : Int32)) ρ' = _
          rw [e0, q2]
        · obtain ⟨f2, rfl⟩ : ∃ g, f2 = g + 1 := ⟨f2 - 1, by omega⟩
          obtain ⟨τ', s1, s2, s3, s4, s5, s6⟩ := st f2 v3 τ ht he hq
          obtain ⟨π, w1, w2, w3⟩ := q4 f2 τ' (by omega) s2 s3 s4 v3
          exact ⟨π, s6.trans w1, ⟨fun j a b c => (w2.1 j a b c).trans (s1.1 j a b c), fun j a => (w2.2 j a).trans (s1.2 j a)⟩, w3⟩
