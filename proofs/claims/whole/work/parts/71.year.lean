/-! PURE: year, the reference's reading -/
def Tr (τ : St) (d : Nat) (T : Nat → Int32) (N : Nat) : Prop := d < 8 ∧ N ≤ 100 ∧ τ 61 10 = nI (100 * d) ∧ τ 61 11 = nI N ∧ (∀ j : Nat, j < N → τ 74 (100 * d + j) = T j) ∧ ∀ j : Nat, j < N → -128 ≤ (T j).toInt ∧ (T j).toInt ≤ 127
def Rd (τ ρ : St) : Prop := (∀ i : Nat, i ≠ 61 → i ≠ 68 → ρ i = τ i) ∧ ∀ j : Nat, j ≠ 9 → ρ 61 j = τ 61 j
theorem Rd.rf {τ : St} : Rd τ τ := ⟨fun _ _ _ => rfl, fun _ _ => rfl⟩
theorem Rd.tr {τ ρ π : St} (h : Rd τ ρ) (g : Rd ρ π) : Rd τ π := ⟨fun i a b => (g.1 i a b).trans (h.1 i a b), fun j a => (g.2 j a).trans (h.2 j a)⟩
theorem Rd.p {τ : St} {v : Int32} : Rd τ (up τ 61 9 v) := ⟨fun i a _ => up_n a, fun j a => by rw [up_s, pk_un a]⟩
theorem Rd.n {τ : St} {k : Nat} {v : Int32} : Rd τ (up τ 68 k v) := ⟨fun i _ b => up_n b, fun j _ => by rw [up_n (by decide)]⟩
theorem Tr.rd {τ ρ : St} {d N : Nat} {T : Nat → Int32} (h : Tr τ d T N) (g : Rd τ ρ) : Tr ρ d T N := by
  obtain ⟨h1, h2, h3, h4, h5, h6⟩ := h
  exact ⟨h1, h2, by rw [g.2 10 (by decide)]; exact h3, by rw [g.2 11 (by decide)]; exact h4, fun j hj => by rw [g.1 74 (by decide) (by decide)]; exact h5 j hj, h6⟩
theorem byte_n : ∀ j : Nat, j < 256 → (f_X9_isIn ((nI j - (128 : Int32)) &&& (255 : Int32)) (48 : Int32) (57 : Int32) = isD (nI j - (128 : Int32)) ∧ (isD (nI j - (128 : Int32)) = true → (nI j - (128 : Int32)) &&& (255 : Int32) = nI j - (128 : Int32))) ∧ ((nI j - (128 : Int32)) &&& (255 : Int32) = (100 : Int32) ↔ nI j - (128 : Int32) = (100 : Int32)) ∧ ((nI j - (128 : Int32)) &&& (255 : Int32) = (115 : Int32) ↔ nI j - (128 : Int32) = (115 : Int32)) ∧ ((nI j - (128 : Int32)) &&& (255 : Int32) = (116 : Int32) ↔ nI j - (128 : Int32) = (116 : Int32)) ∧ ((nI j - (128 : Int32)) &&& (255 : Int32) = (59 : Int32) ↔ nI j - (128 : Int32) = (59 : Int32)) := by decide +kernel
theorem byte_i {c : Int32} (h1 : -128 ≤ c.toInt) (h2 : c.toInt ≤ 127) : (f_X9_isIn (c &&& (255 : Int32)) (48 : Int32) (57 : Int32) = isD c ∧ (isD c = true → c &&& (255 : Int32) = c)) ∧ (c &&& (255 : Int32) = (100 : Int32) ↔ c = (100 : Int32)) ∧ (c &&& (255 : Int32) = (115 : Int32) ↔ c = (115 : Int32)) ∧ (c &&& (255 : Int32) = (116 : Int32) ↔ c = (116 : Int32)) ∧ (c &&& (255 : Int32) = (59 : Int32) ↔ c = (59 : Int32)) := by
  have e : c = nI (c.toInt + 128).toNat - (128 : Int32) := by
    refine Int32.toInt_inj.mp ?_
    have e8 : (nI (c.toInt + 128).toNat - nI 128).toInt = ((c.toInt + 128).toNat : Int) - (128 : Nat) := pk_sub_toInt (by omega) (by decide)
    have e9 : (128 : Int32) = nI 128 := rfl
    rw [e9, e8]
    omega
  have q := byte_n (c.toInt + 128).toNat (by omega)
  rw [← e] at q
  exact q
theorem here_in {τ : St} {d N p : Nat} {T : Nat → Int32} (h : Tr τ d T N) (e : τ 61 9 = nI p) (hp : p < N) : f_X9_here τ = some (T p &&& (255 : Int32)) := by
  obtain ⟨h1, h2, h3, h4, h5, h6⟩ := h
  unfold f_X9_here
  rw [h4, e, if_neg (nI_ge hp (by omega)), h3, nI_add, if_pos (inb_nI (by omega) (by decide)), nI_clamp (by omega), h5 p hp]
theorem here_end {τ : St} {d N : Nat} {T : Nat → Int32} (h : Tr τ d T N) (e : τ 61 9 = nI N) : f_X9_here τ = some (-1) := by
  obtain ⟨h1, h2, h3, h4, h5, h6⟩ := h
  unfold f_X9_here
  rw [h4, e, if_pos (nI_le (Nat.le_refl N) (by omega))]
def nuS (T : Nat → Int32) (p : Nat) : Nat → Int32 := lf (fun j a => (((10 : Int32) * a) + T (p + j)) - (48 : Int32)) (0 : Int32)
theorem nu_s {T : Nat → Int32} {p j : Nat} : nuS T p (j + 1) = (((10 : Int32) * nuS T p j) + T (p + j)) - (48 : Int32) := rfl
theorem num_9 {d N p D k : Nat} {T : Nat → Int32} (hk : k < 5) (hD : D < 10) : ∀ (e j f : Nat) (τ : St), j + e = D → e < f → Tr τ d T N → τ 61 9 = nI (p + j) → p + j ≤ N → τ 68 k = nuS T p j → ∃ ρ, f_X9_readsNumber_9 (nI k) (nI D) f (nI j) τ = some (decide (dgS T N e (p + j) = e), ρ) ∧ Rd τ ρ ∧ ρ 61 9 = nI (p + j + dgS T N e (p + j)) ∧ (dgS T N e (p + j) = e → ρ 68 k = nuS T p D) ∧ ∀ b : Nat, b ≠ k → ρ 68 b = τ 68 b := by
  intro e
  induction e with
  | zero =>
    intro j f τ hj hf h e9 hp hv
    obtain ⟨f, rfl⟩ : ∃ g, f = g + 1 := ⟨f - 1, by omega⟩
    obtain rfl : j = D := by omega
    rw [f_X9_readsNumber_9_s, if_pos (nI_le (Nat.le_refl j) (by omega))]
    exact ⟨τ, rfl, Rd.rf, e9, fun _ => hv, fun _ _ => rfl⟩
  | succ e ih =>
    intro j f τ hj hf h e9 hp hv
    have hN := h.2.1
    have h6 := h.2.2.2.2.2
    obtain ⟨f, rfl⟩ : ∃ g, f = g + 1 := ⟨f - 1, by omega⟩
    rw [f_X9_readsNumber_9_s, if_neg (nI_ge (a := j) (b := D) (by omega) (by omega)), dg_s]
    by_cases hpN : p + j < N
    · obtain ⟨⟨b1, b2⟩, -⟩ := byte_i (h6 _ hpN).1 (h6 _ hpN).2
      rw [here_in h e9 hpN, ob_s, b1, ob_s]
      by_cases hd : isD (T (p + j)) = true
      · have b5 : inb (nI k) 5 := inb_nI hk (by decide)
        rw [if_pos hd, if_pos b5, if_pos b5, b2 hd, nI_clamp (n := k) (by omega), hv, ← nu_s, up_n (show (61 : Nat) ≠ 68 by decide), e9, nI_1, nI_1, if_pos ⟨hpN, hd⟩]
        have g : Rd τ (up (up τ 68 k (nuS T p (j + 1))) 61 9 (nI (p + j + 1))) := Rd.n.tr Rd.p
        obtain ⟨ρ, r1, r2, r3, r4, r5⟩ := ih (j + 1) f (up (up τ 68 k (nuS T p (j + 1))) 61 9 (nI (p + j + 1))) (by omega) (by omega) (h.rd g) (by rw [up_s, pk_us]; rfl) (by omega) (by rw [up_n (by decide), up_s, pk_us])
        have e0 : p + (j + 1) = p + j + 1 := rfl
        rw [e0] at r1 r3 r4
        refine ⟨ρ, ?_, g.tr r2, ?_, fun q => r4 (by omega), fun b hb => by rw [r5 b hb, up_n (by decide), up_s, pk_un hb]⟩
        · rw [r1]
          refine congrArg (fun z => some (z, ρ)) ?_
          by_cases c : dgS T N e (p + j + 1) = e
          · rw [decide_eq_true c, decide_eq_true (show dgS T N e (p + j + 1) + 1 = e + 1 by omega)]
          · rw [decide_eq_false c, decide_eq_false (show ¬ dgS T N e (p + j + 1) + 1 = e + 1 by omega)]
        · rw [r3, show p + j + 1 + dgS T N e (p + j + 1) = p + j + (dgS T N e (p + j + 1) + 1) by omega]
      · rw [if_neg hd, if_neg (fun q => hd q.2)]
        exact ⟨τ, rfl, Rd.rf, e9, fun q => absurd q (by omega), fun _ _ => rfl⟩
    · have e8 : p + j = N := by omega
      rw [here_end h (by rw [e9, e8]), ob_s, if_neg (show ¬ f_X9_isIn (-1 : Int32) (48 : Int32) (57 : Int32) = true by decide), if_neg (fun q => hpN q.1)]
      exact ⟨τ, rfl, Rd.rf, e9, fun q => absurd q (by omega), fun _ _ => rfl⟩
theorem num {τ : St} {d N p : Nat} {T : Nat → Int32} (k D : Nat) (hk : k < 5) (hD : D < 10) (h : Tr τ d T N) (e : τ 61 9 = nI p) (hp : p ≤ N) : ∃ ρ, f_X9_readsNumber (nI k) (nI D) τ = some (decide (dgS T N D p = D), ρ) ∧ Rd τ ρ ∧ ρ 61 9 = nI (p + dgS T N D p) ∧ (dgS T N D p = D → ρ 68 k = nuS T p D) ∧ ∀ b : Nat, b ≠ k → ρ 68 b = τ 68 b := by
  have b5 : inb (nI k) 5 := inb_nI hk (by decide)
  unfold f_X9_readsNumber
  rw [if_pos b5, nI_clamp (n := k) (by omega)]
  obtain ⟨ρ, r1, r2, r3, r4, r5⟩ := num_9 (p := p) hk hD D 0 fu (up τ 68 k 0) (by omega) (fu_gt (by omega)) (h.rd Rd.n) (by rw [up_n (by decide)]; exact e) hp (by rw [up_s, pk_us]; rfl)
  exact ⟨ρ, r1, Rd.n.tr r2, r3, r4, fun b hb => by rw [r5 b hb, up_s, pk_un hb]⟩
theorem tail_r {τ : St} {d N q : Nat} {T : Nat → Int32} (h : Tr τ d T N) (e : τ 61 9 = nI q) (hq : q ≤ N) : f_X9_readsStatement_155 1 τ = if q < N ∧ T q = (59 : Int32) then some (true, up τ 61 9 (nI (q + 1))) else some (false, τ) := by
  have h6 := h.2.2.2.2.2
  rw [f_X9_readsStatement_155_e, if_neg (show ¬ (1 : Int32) = 0 by decide)]
  by_cases hqN : q < N
  · obtain ⟨-, -, -, -, b⟩ := byte_i (h6 _ hqN).1 (h6 _ hqN).2
    rw [here_in h e hqN, ob_s]
    by_cases h59 : T q = (59 : Int32)
    · rw [if_pos (b.mpr h59), if_pos ⟨hqN, h59⟩, e, nI_1]
    · rw [if_neg (fun z => h59 (b.mp z)), if_neg (fun z => h59 z.2)]
  · obtain rfl : q = N := by omega
    rw [here_end h e, ob_s, if_neg (by decide), if_neg (fun z => hqN z.1)]
def nmS (ρ : St) (T : Nat → Int32) (p : Nat) : Prop := (T p = (100 : Int32) → ρ 68 0 = nuS T (p + 1) 1 ∧ ρ 68 1 = nuS T (p + 2) 1 ∧ ρ 68 2 = nuS T (p + 3) 3 ∧ ρ 68 3 = nuS T (p + 6) 1 ∧ ρ 68 4 = nuS T (p + 7) 2) ∧ (T p = (116 : Int32) → ρ 68 0 = nuS T (p + 1) 3) ∧ (T p = (115 : Int32) → ρ 68 0 = nuS T (p + 1) 1 ∧ ρ 68 1 = nuS T (p + 2) 1)
theorem st_tail {τ τ5 : St} {d N p D : Nat} {T : Nat → Int32} (h : Tr τ5 d T N) (e : τ5 61 9 = nI (p + 1 + D)) (hp : p < N) (hD : diS (T p) = D) (h0 : D ≠ 0) (hg : dgS T N D (p + 1) = D) (g : Rd τ τ5) (hn : nmS τ5 T p) : ∃ ρ, f_X9_readsStatement_155 1 τ5 = some ((rsS T N p).2, ρ) ∧ Rd τ ρ ∧ ρ 61 9 = nI (rsS T N p).1 ∧ ((rsS T N p).2 = true → nmS ρ T p) := by
  have hq : p + 1 + D ≤ N := by
    have := dg_N (T := T) (N := N) D (p + 1) hp
    omega
  rw [tail_r h e hq]
  by_cases hc : p + 1 + D < N ∧ T (p + 1 + D) = (59 : Int32)
  · rw [if_pos hc, rs_ok hp hD h0 hg hc]
    refine ⟨_, rfl, g.tr Rd.p, ?_, fun _ => hn⟩
    rw [up_s, pk_us, show p + 1 + D + 1 = p + D + 2 by omega]
  · rw [if_neg hc, rs_no hp hD h0 hg hc]
    exact ⟨_, rfl, g, e, fun z => absurd z Bool.false_ne_true⟩
theorem st_lo {τ τ1 : St} {N p D : Nat} {T : Nat → Int32} (hp : p < N) (hD : diS (T p) = D) (hg : dgS T N D (p + 1) < D) (e : τ1 61 9 = nI (p + 1 + dgS T N D (p + 1))) (g : Rd τ τ1) : ∃ ρ, (some (false, τ1) : Option (Bool × St)) = some ((rsS T N p).2, ρ) ∧ Rd τ ρ ∧ ρ 61 9 = nI (rsS T N p).1 ∧ ((rsS T N p).2 = true → nmS ρ T p) := by
  rw [rs_lo hp hD hg]
  exact ⟨τ1, rfl, g, e, fun z => absurd z Bool.false_ne_true⟩
theorem st_mid {τ τ1 : St} {N p D a k : Nat} {T : Nat → Int32} (hp : p < N) (hD : diS (T p) = D) (hak : a + k ≤ D) (he : dgS T N D (p + 1) = dgS T N (D - a) (p + 1 + a) + a) (hg : ¬ dgS T N k (p + 1 + a) = k) (e : τ1 61 9 = nI (p + 1 + a + dgS T N k (p + 1 + a))) (g : Rd τ τ1) : ∃ ρ, (some (false, τ1) : Option (Bool × St)) = some ((rsS T N p).2, ρ) ∧ Rd τ ρ ∧ ρ 61 9 = nI (rsS T N p).1 ∧ ((rsS T N p).2 = true → nmS ρ T p) := by
  have hlt : dgS T N k (p + 1 + a) < k := by
    have := dg_le (T := T) (N := N) k (p + 1 + a)
    omega
  have e1 : dgS T N (D - a - k + k) (p + 1 + a) = dgS T N k (p + 1 + a) := dg_lo k (p + 1 + a) hlt
  rw [show D - a - k + k = D - a by omega] at e1
  exact st_lo hp hD (by omega) (by rw [e, he, e1]; congr 1; omega) g
theorem st_go {N p D a k : Nat} {T : Nat → Int32} (hak : a + k ≤ D) (he : dgS T N D (p + 1) = dgS T N (D - a) (p + 1 + a) + a) (hg : dgS T N k (p + 1 + a) = k) : dgS T N D (p + 1) = dgS T N (D - (a + k)) (p + 1 + (a + k)) + (a + k) := by
  have e1 : dgS T N (D - a - k + k) (p + 1 + a) = dgS T N (D - a - k) (p + 1 + a + k) + k := dg_hi k (p + 1 + a) hg
  rw [show D - a - k + k = D - a by omega] at e1
  rw [he, e1, show D - (a + k) = D - a - k by omega, show p + 1 + (a + k) = p + 1 + a + k by omega]
  omega
theorem fail_d {τ : St} : f_X9_readsStatement_101 τ = some (false, τ) := by
  rw [f_X9_readsStatement_101_e, f_X9_readsStatement_102_e, f_X9_readsStatement_155_e, if_pos rfl]
theorem fail_s {τ : St} : f_X9_readsStatement_138 τ = some (false, τ) := by
  rw [f_X9_readsStatement_138_e, f_X9_readsStatement_139_e, f_X9_readsStatement_155_e, if_pos rfl]
theorem st_d {τ : St} {d N p : Nat} {T : Nat → Int32} (h : Tr τ d T N) (e : τ 61 9 = nI (p + 1)) (hp : p < N) (hc : T p = (100 : Int32)) : ∃ ρ, (ob (f_X9_readsNumber (0 : Int32) (1 : Int32) τ) (fun q8 => if q8.1 = true then (ob (f_X9_readsNumber (1 : Int32) (1 : Int32) q8.2) (fun q11 => if q11.1 = true then (ob (f_X9_readsNumber (2 : Int32) (3 : Int32) q11.2) (fun q14 => if q14.1 = true then (ob (f_X9_readsNumber (3 : Int32) (1 : Int32) q14.2) (fun q17 => if q17.1 = true then (ob (f_X9_readsNumber (4 : Int32) (2 : Int32) q17.2) (fun q20 => if q20.1 = true then (f_X9_readsStatement_102 (1 : Int32) q20.2) else f_X9_readsStatement_101 q20.2)) else f_X9_readsStatement_101 q17.2)) else f_X9_readsStatement_101 q14.2)) else f_X9_readsStatement_101 q11.2)) else f_X9_readsStatement_101 q8.2)) = some ((rsS T N p).2, ρ) ∧ Rd τ ρ ∧ ρ 61 9 = nI (rsS T N p).1 ∧ ((rsS T N p).2 = true → nmS ρ T p) := by
  have hD : diS (T p) = 8 := by unfold diS; rw [if_pos hc]
  have n115 : ¬ T p = (115 : Int32) := by rw [hc]; decide
  have n116 : ¬ T p = (116 : Int32) := by rw [hc]; decide
  have e0 : dgS T N 8 (p + 1) = dgS T N (8 - 0) (p + 1 + 0) + 0 := rfl
  obtain ⟨τ1, a1, b1, c1, d1, f1⟩ := num 0 1 (by decide) (by decide) h e hp
  have a1' : f_X9_readsNumber (0 : Int32) (1 : Int32) τ = some (decide (dgS T N 1 (p + 1) = 1), τ1) := a1
  by_cases g1 : dgS T N 1 (p + 1) = 1
  · rw [decide_eq_true g1] at a1'
    have e1 := st_go (a := 0) (k := 1) (by decide) e0 g1
    have p1 := dg_N (T := T) (N := N) 1 (p + 1) hp
    rw [a1', ob_s, if_pos (show (true, τ1).1 = true from rfl)]
    rw [g1] at c1 p1
    obtain ⟨τ2, a2, b2, c2, d2, f2⟩ := num 1 1 (by decide) (by decide) (h.rd b1) c1 p1
    have a2' : f_X9_readsNumber (1 : Int32) (1 : Int32) (true, τ1).2 = some (decide (dgS T N 1 (p + 1 + 1) = 1), τ2) := a2
    by_cases g2 : dgS T N 1 (p + 1 + 1) = 1
    · rw [decide_eq_true g2] at a2'
      have e2 := st_go (a := 1) (k := 1) (by decide) e1 g2
      have p2 := dg_N (T := T) (N := N) 1 (p + 1 + 1) p1
      rw [a2', ob_s, if_pos (show (true, τ2).1 = true from rfl)]
      rw [g2] at c2 p2
      have h2 := (h.rd b1).rd b2
      obtain ⟨τ3, a3, b3, c3, d3, f3⟩ := num 2 3 (by decide) (by decide) h2 c2 p2
      have a3' : f_X9_readsNumber (2 : Int32) (3 : Int32) (true, τ2).2 = some (decide (dgS T N 3 (p + 1 + 1 + 1) = 3), τ3) := a3
      by_cases g3 : dgS T N 3 (p + 1 + 1 + 1) = 3
      · rw [decide_eq_true g3] at a3'
        have e3 := st_go (a := 2) (k := 3) (by decide) e2 g3
        have p3 := dg_N (T := T) (N := N) 3 (p + 1 + 1 + 1) p2
        rw [a3', ob_s, if_pos (show (true, τ3).1 = true from rfl)]
        rw [g3] at c3 p3
        obtain ⟨τ4, a4, b4, c4, d4, f4⟩ := num 3 1 (by decide) (by decide) (h2.rd b3) c3 p3
        have a4' : f_X9_readsNumber (3 : Int32) (1 : Int32) (true, τ3).2 = some (decide (dgS T N 1 (p + 1 + 1 + 1 + 3) = 1), τ4) := a4
        by_cases g4 : dgS T N 1 (p + 1 + 1 + 1 + 3) = 1
        · rw [decide_eq_true g4] at a4'
          have e4 := st_go (a := 5) (k := 1) (by decide) e3 g4
          have p4 := dg_N (T := T) (N := N) 1 (p + 1 + 1 + 1 + 3) p3
          rw [a4', ob_s, if_pos (show (true, τ4).1 = true from rfl)]
          rw [g4] at c4 p4
          have h4 := (h2.rd b3).rd b4
          obtain ⟨τ5, a5, b5, c5, d5, f5⟩ := num 4 2 (by decide) (by decide) h4 c4 p4
          have a5' : f_X9_readsNumber (4 : Int32) (2 : Int32) (true, τ4).2 = some (decide (dgS T N 2 (p + 1 + 1 + 1 + 3 + 1) = 2), τ5) := a5
          by_cases g5 : dgS T N 2 (p + 1 + 1 + 1 + 3 + 1) = 2
          · rw [decide_eq_true g5] at a5'
            have e5 := st_go (a := 6) (k := 2) (by decide) e4 g5
            rw [a5', ob_s, if_pos (show (true, τ5).1 = true from rfl), f_X9_readsStatement_102_e]
            rw [g5] at c5
            refine st_tail (D := 8) (h4.rd b5) c5 hp hD (by decide) e5 ((((b1.tr b2).tr b3).tr b4).tr b5) ⟨fun _ => ⟨?_, ?_, ?_, ?_, ?_⟩, fun q => absurd q n116, fun q => absurd q n115⟩
            · show τ5 68 0 = _
              rw [f5 0 (by decide), f4 0 (by decide), f3 0 (by decide), f2 0 (by decide), d1 g1]
            · show τ5 68 1 = _
              rw [f5 1 (by decide), f4 1 (by decide), f3 1 (by decide), d2 g2]
            · show τ5 68 2 = _
              rw [f5 2 (by decide), f4 2 (by decide), d3 g3]
            · show τ5 68 3 = _
              rw [f5 3 (by decide), d4 g4]
            · show τ5 68 4 = _
              rw [d5 g5]
          · rw [decide_eq_false g5] at a5'
            rw [a5', ob_s, if_neg (show ¬ (false, τ5).1 = true from Bool.false_ne_true), fail_d]
            exact st_mid (a := 6) (k := 2) hp hD (by decide) e4 g5 c5 ((((b1.tr b2).tr b3).tr b4).tr b5)
        · rw [decide_eq_false g4] at a4'
          rw [a4', ob_s, if_neg (show ¬ (false, τ4).1 = true from Bool.false_ne_true), fail_d]
          exact st_mid (a := 5) (k := 1) hp hD (by decide) e3 g4 c4 (((b1.tr b2).tr b3).tr b4)
      · rw [decide_eq_false g3] at a3'
        rw [a3', ob_s, if_neg (show ¬ (false, τ3).1 = true from Bool.false_ne_true), fail_d]
        exact st_mid (a := 2) (k := 3) hp hD (by decide) e2 g3 c3 ((b1.tr b2).tr b3)
    · rw [decide_eq_false g2] at a2'
      rw [a2', ob_s, if_neg (show ¬ (false, τ2).1 = true from Bool.false_ne_true), fail_d]
      exact st_mid (a := 1) (k := 1) hp hD (by decide) e1 g2 c2 (b1.tr b2)
  · rw [decide_eq_false g1] at a1'
    rw [a1', ob_s, if_neg (show ¬ (false, τ1).1 = true from Bool.false_ne_true), fail_d]
    exact st_mid (a := 0) (k := 1) hp hD (by decide) e0 g1 c1 b1
theorem st_s {τ : St} {d N p : Nat} {T : Nat → Int32} (h : Tr τ d T N) (e : τ 61 9 = nI (p + 1)) (hp : p < N) (hc : T p = (115 : Int32)) : ∃ ρ, (ob (f_X9_readsNumber (0 : Int32) (1 : Int32) τ) (fun q24 => if q24.1 = true then (ob (f_X9_readsNumber (1 : Int32) (1 : Int32) q24.2) (fun q27 => if q27.1 = true then (f_X9_readsStatement_139 (1 : Int32) q27.2) else f_X9_readsStatement_138 q27.2)) else f_X9_readsStatement_138 q24.2)) = some ((rsS T N p).2, ρ) ∧ Rd τ ρ ∧ ρ 61 9 = nI (rsS T N p).1 ∧ ((rsS T N p).2 = true → nmS ρ T p) := by
  have n100 : ¬ T p = (100 : Int32) := by rw [hc]; decide
  have n116 : ¬ T p = (116 : Int32) := by rw [hc]; decide
  have hD : diS (T p) = 2 := by unfold diS; rw [if_neg n100, if_pos hc]
  have e0 : dgS T N 2 (p + 1) = dgS T N (2 - 0) (p + 1 + 0) + 0 := rfl
  obtain ⟨τ1, a1, b1, c1, d1, f1⟩ := num 0 1 (by decide) (by decide) h e hp
  have a1' : f_X9_readsNumber (0 : Int32) (1 : Int32) τ = some (decide (dgS T N 1 (p + 1) = 1), τ1) := a1
  by_cases g1 : dgS T N 1 (p + 1) = 1
  · rw [decide_eq_true g1] at a1'
    have e1 := st_go (a := 0) (k := 1) (by decide) e0 g1
    have p1 := dg_N (T := T) (N := N) 1 (p + 1) hp
    rw [a1', ob_s, if_pos (show (true, τ1).1 = true from rfl)]
    rw [g1] at c1 p1
    obtain ⟨τ2, a2, b2, c2, d2, f2⟩ := num 1 1 (by decide) (by decide) (h.rd b1) c1 p1
    have a2' : f_X9_readsNumber (1 : Int32) (1 : Int32) (true, τ1).2 = some (decide (dgS T N 1 (p + 1 + 1) = 1), τ2) := a2
    by_cases g2 : dgS T N 1 (p + 1 + 1) = 1
    · rw [decide_eq_true g2] at a2'
      have e2 := st_go (a := 1) (k := 1) (by decide) e1 g2
      rw [a2', ob_s, if_pos (show (true, τ2).1 = true from rfl), f_X9_readsStatement_139_e]
      rw [g2] at c2
      refine st_tail (D := 2) ((h.rd b1).rd b2) c2 hp hD (by decide) e2 (b1.tr b2) ⟨fun q => absurd q n100, fun q => absurd q n116, fun _ => ⟨?_, ?_⟩⟩
      · show τ2 68 0 = _
        rw [f2 0 (by decide), d1 g1]
      · show τ2 68 1 = _
        rw [d2 g2]
    · rw [decide_eq_false g2] at a2'
      rw [a2', ob_s, if_neg (show ¬ (false, τ2).1 = true from Bool.false_ne_true), fail_s]
      exact st_mid (a := 1) (k := 1) hp hD (by decide) e1 g2 c2 (b1.tr b2)
  · rw [decide_eq_false g1] at a1'
    rw [a1', ob_s, if_neg (show ¬ (false, τ1).1 = true from Bool.false_ne_true), fail_s]
    exact st_mid (a := 0) (k := 1) hp hD (by decide) e0 g1 c1 b1
theorem st_t {τ : St} {d N p : Nat} {T : Nat → Int32} (h : Tr τ d T N) (e : τ 61 9 = nI (p + 1)) (hp : p < N) (hc : T p = (116 : Int32)) : ∃ ρ, (ob (f_X9_readsNumber (0 : Int32) (3 : Int32) τ) (fun q31 => f_X9_readsStatement_155 (b2i q31.1) q31.2)) = some ((rsS T N p).2, ρ) ∧ Rd τ ρ ∧ ρ 61 9 = nI (rsS T N p).1 ∧ ((rsS T N p).2 = true → nmS ρ T p) := by
  have n100 : ¬ T p = (100 : Int32) := by rw [hc]; decide
  have n115 : ¬ T p = (115 : Int32) := by rw [hc]; decide
  have hD : diS (T p) = 3 := by unfold diS; rw [if_neg n100, if_neg n115, if_pos hc]
  have e0 : dgS T N 3 (p + 1) = dgS T N (3 - 0) (p + 1 + 0) + 0 := rfl
  obtain ⟨τ1, a1, b1, c1, d1, f1⟩ := num 0 3 (by decide) (by decide) h e hp
  have a1' : f_X9_readsNumber (0 : Int32) (3 : Int32) τ = some (decide (dgS T N 3 (p + 1) = 3), τ1) := a1
  by_cases g1 : dgS T N 3 (p + 1) = 3
  · rw [decide_eq_true g1] at a1'
    rw [a1', ob_s]
    rw [g1] at c1
    exact st_tail (D := 3) (h.rd b1) c1 hp hD (by decide) g1 b1 ⟨fun q => absurd q n100, fun _ => d1 g1, fun q => absurd q n115⟩
  · rw [decide_eq_false g1] at a1'
    rw [a1', ob_s]
    show ∃ ρ, f_X9_readsStatement_155 0 τ1 = _ ∧ _
    rw [f_X9_readsStatement_155_e, if_pos rfl]
    exact st_mid (a := 0) (k := 3) hp hD (by decide) e0 g1 c1 b1
theorem st_r {τ : St} {d N p : Nat} {T : Nat → Int32} (h : Tr τ d T N) (e : τ 61 9 = nI p) (hp : p ≤ N) : ∃ ρ, f_X9_readsStatement τ = some ((rsS T N p).2, ρ) ∧ Rd τ ρ ∧ ρ 61 9 = nI (rsS T N p).1 ∧ ((rsS T N p).2 = true → nmS ρ T p) := by
  have h6 := h.2.2.2.2.2
  have g0 : Rd τ (up τ 61 9 (nI (p + 1))) := Rd.p
  have e0 : up τ 61 9 (nI (p + 1)) 61 9 = nI (p + 1) := by rw [up_s, pk_us]
  have back : ¬ (p < N ∧ diS (T p) ≠ 0) → ∃ ρ, (some (false, up (up τ 61 9 (nI (p + 1))) 61 9 ((up τ 61 9 (nI (p + 1))) 61 9 - (1 : Int32))) : Option (Bool × St)) = some ((rsS T N p).2, ρ) ∧ Rd τ ρ ∧ ρ 61 9 = nI (rsS T N p).1 ∧ ((rsS T N p).2 = true → nmS ρ T p) := by
    intro hb
    rw [rs_0 hb, e0, nI_pred]
    exact ⟨_, rfl, g0.tr Rd.p, by rw [up_s, pk_us], fun z => absurd z Bool.false_ne_true⟩
  have cut : ∀ ρ0 : Option (Bool × St), (∃ ρ, ρ0 = some ((rsS T N p).2, ρ) ∧ Rd (up τ 61 9 (nI (p + 1))) ρ ∧ ρ 61 9 = nI (rsS T N p).1 ∧ ((rsS T N p).2 = true → nmS ρ T p)) → ∃ ρ, ρ0 = some ((rsS T N p).2, ρ) ∧ Rd τ ρ ∧ ρ 61 9 = nI (rsS T N p).1 ∧ ((rsS T N p).2 = true → nmS ρ T p) := by
    rintro ρ0 ⟨ρ, a, b, c, f⟩
    exact ⟨ρ, a, g0.tr b, c, f⟩
  unfold f_X9_readsStatement
  by_cases hpN : p < N
  · obtain ⟨-, b1, b2, b3, -⟩ := byte_i (h6 _ hpN).1 (h6 _ hpN).2
    rw [here_in h e hpN, ob_s, e, nI_1]
    by_cases c1 : T p = (100 : Int32)
    · rw [if_pos (b1.mpr c1)]
      exact cut _ (st_d (h.rd g0) e0 hpN c1)
    · rw [if_neg (fun q => c1 (b1.mp q))]
      by_cases c2 : T p = (115 : Int32)
      · rw [if_pos (b2.mpr c2)]
        exact cut _ (st_s (h.rd g0) e0 hpN c2)
      · rw [if_neg (fun q => c2 (b2.mp q))]
        by_cases c3 : T p = (116 : Int32)
        · rw [if_pos (b3.mpr c3)]
          exact cut _ (st_t (h.rd g0) e0 hpN c3)
        · rw [if_neg (fun q => c3 (b3.mp q))]
          refine back (fun q => q.2 ?_)
          unfold diS
          rw [if_neg c1, if_neg c2, if_neg c3]
  · obtain rfl : p = N := by omega
    rw [here_end h e, ob_s, if_neg (by decide), if_neg (by decide), if_neg (by decide), e, nI_1]
    exact back (fun q => hpN q.1)
