/-! PURE: years: the draws -/
def nxS (z : Int32) : Int32 := (z * (1103515245 : Int32)) + (12345 : Int32)
def drS (n z : Int32) : Int32 := ((nxS z &&& (2147483647 : Int32)) / (65536 : Int32)) - ((nxS z &&& (2147483647 : Int32)) / (65536 : Int32)) / n * n
theorem dr_rng {n : Nat} (h0 : 0 < n) (hn : n < 2 ^ 31) (z : Int32) : ∃ k : Nat, k < n ∧ drS (nI n) z = nI k := by
  obtain ⟨q, hq, e⟩ := pk_andE (nxS z) (m := 2147483647) 31 (by decide)
  unfold drS
  rw [e, show nI q / (65536 : Int32) = nI (q / 65536) from pk_div (d := 65536) (by omega) (by decide) (by decide), pk_rem (by omega) h0 hn]
  exact ⟨_, Nat.mod_lt _ h0, rfl⟩
theorem draw_c {n : Nat} (h0 : 0 < n) (hn : n < 2 ^ 31) (z : Int32) (σ : St) : f_X8_drawBelow (nI n) (f_X8_nextSeed z) σ = some (drS (nI n) z) := by
  unfold f_X8_drawBelow
  rw [if_pos (show (1 : Int32) ≤ nI n from nI_le (a := 1) h0 hn), if_pos (nI_ne0 h0 hn)]
  rfl
theorem draw_r {n : Nat} (h0 : 0 < n) (hn : n < 2 ^ 31) (τ : St) : f_X9_drawn (nI n) τ = some (drS (nI n) (τ 61 13), up τ 61 13 (nxS (τ 61 13))) := by
  unfold f_X9_drawn
  rw [if_pos (nI_ne0 h0 hn), up_s, pk_us]
  rfl
/-- a deed at a cell, whatever stood there -/
theorem bec_c {τ : St} {c a b d w s : Nat} (ha : a < 8) (hb : b < 10) (hd : d < 365) (hw : w < 5) (hs : s < 32) : ∃ ρ, f_X1_become c (nI a) (nI b) (nI d) (nI w) (nI s) τ = some ρ ∧ DOk ρ c ∧ (∀ i : Nat, i ≠ c → ρ i = τ i) ∧ ρ c 0 = nI a ∧ ρ c 1 = nI b ∧ ρ c 2 = nI d ∧ ρ c 3 = nI w ∧ ρ c 4 = nI s &&& (((1 : Int32) <<< (nI w &&& 31)) ^^^ (-1 : Int32)) := by
  obtain ⟨u, hu1, hu2, hu3, -⟩ := off_bit s hs w hw
  have eb : f_X1_become c (nI a) (nI b) (nI d) (nI w) (nI s) τ = some (up (up (up (up (up (up (up τ c 0 (nI a)) c 1 (nI b)) c 2 (nI d)) c 3 (nI w)) c 4 (nI s &&& (((1 : Int32) <<< (nI w &&& 31)) ^^^ (-1 : Int32)))) c 5 (f_X4_lasting (nI a) (nI b))) c 6 (f_X4_lastingOwn (nI a) ((up (up (up (up (up (up τ c 0 (nI a)) c 1 (nI b)) c 2 (nI d)) c 3 (nI w)) c 4 (nI s &&& (((1 : Int32) <<< (nI w &&& 31)) ^^^ (-1 : Int32)))) c 5 (f_X4_lasting (nI a) (nI b))) c 5))) := rfl
  have e5 : (up (up (up (up (up (up τ c 0 (nI a)) c 1 (nI b)) c 2 (nI d)) c 3 (nI w)) c 4 (nI s &&& (((1 : Int32) <<< (nI w &&& 31)) ^^^ (-1 : Int32)))) c 5 (f_X4_lasting (nI a) (nI b))) c 5 = f_X4_lasting (nI a) (nI b) := by rw [up_s, pk_us]
  rw [e5] at eb
  have g0 : (up (up (up (up (up (up (up τ c 0 (nI a)) c 1 (nI b)) c 2 (nI d)) c 3 (nI w)) c 4 (nI s &&& (((1 : Int32) <<< (nI w &&& 31)) ^^^ (-1 : Int32)))) c 5 (f_X4_lasting (nI a) (nI b))) c 6 (f_X4_lastingOwn (nI a) (f_X4_lasting (nI a) (nI b)))) c 0 = nI a := by rw [up_s, pk_un (by decide), up_s, pk_un (by decide), up_s, pk_un (by decide), up_s, pk_un (by decide), up_s, pk_un (by decide), up_s, pk_un (by decide), up_s, pk_us]
  have g1 : (up (up (up (up (up (up (up τ c 0 (nI a)) c 1 (nI b)) c 2 (nI d)) c 3 (nI w)) c 4 (nI s &&& (((1 : Int32) <<< (nI w &&& 31)) ^^^ (-1 : Int32)))) c 5 (f_X4_lasting (nI a) (nI b))) c 6 (f_X4_lastingOwn (nI a) (f_X4_lasting (nI a) (nI b)))) c 1 = nI b := by rw [up_s, pk_un (by decide), up_s, pk_un (by decide), up_s, pk_un (by decide), up_s, pk_un (by decide), up_s, pk_un (by decide), up_s, pk_us]
  have g2 : (up (up (up (up (up (up (up τ c 0 (nI a)) c 1 (nI b)) c 2 (nI d)) c 3 (nI w)) c 4 (nI s &&& (((1 : Int32) <<< (nI w &&& 31)) ^^^ (-1 : Int32)))) c 5 (f_X4_lasting (nI a) (nI b))) c 6 (f_X4_lastingOwn (nI a) (f_X4_lasting (nI a) (nI b)))) c 2 = nI d := by rw [up_s, pk_un (by decide), up_s, pk_un (by decide), up_s, pk_un (by decide), up_s, pk_un (by decide), up_s, pk_us]
  have g3 : (up (up (up (up (up (up (up τ c 0 (nI a)) c 1 (nI b)) c 2 (nI d)) c 3 (nI w)) c 4 (nI s &&& (((1 : Int32) <<< (nI w &&& 31)) ^^^ (-1 : Int32)))) c 5 (f_X4_lasting (nI a) (nI b))) c 6 (f_X4_lastingOwn (nI a) (f_X4_lasting (nI a) (nI b)))) c 3 = nI w := by rw [up_s, pk_un (by decide), up_s, pk_un (by decide), up_s, pk_un (by decide), up_s, pk_us]
  have g4 : (up (up (up (up (up (up (up τ c 0 (nI a)) c 1 (nI b)) c 2 (nI d)) c 3 (nI w)) c 4 (nI s &&& (((1 : Int32) <<< (nI w &&& 31)) ^^^ (-1 : Int32)))) c 5 (f_X4_lasting (nI a) (nI b))) c 6 (f_X4_lastingOwn (nI a) (f_X4_lasting (nI a) (nI b)))) c 4 = nI s &&& (((1 : Int32) <<< (nI w &&& 31)) ^^^ (-1 : Int32)) := by rw [up_s, pk_un (by decide), up_s, pk_un (by decide), up_s, pk_us]
  refine ⟨_, eb, ⟨a, b, d, w, u, ha, hb, hd, hw, hu1, hu2, g0, g1, g2, g3, g4.trans hu3, ?_, ?_⟩, fun i hi => ?_, g0, g1, g2, g3, g4⟩
  · rw [up_s, pk_un (by decide), up_s, pk_us]
  · rw [up_s, pk_us]
  · rw [up_n hi, up_n hi, up_n hi, up_n hi, up_n hi, up_n hi, up_n hi]
/-- the five draws of a deed -/
def z1 (z : Int32) : Int32 := nxS z
def z5 (z : Int32) : Int32 := nxS (nxS (nxS (nxS (nxS z))))
/-- a drawn deed on both sides: the class's cell 60, the reference's row 63 at k -/
theorem draw_two {τ1 τ2 : St} {k : Nat} (z : Int32) (hk : k < 10) (h0 : τ2 63 0 = nI k) (h13 : τ2 61 13 = z) : ∃ (ρ1 ρ2 q1 q2 q3 q4 q5 : St) (a b d w s : Int32), f_X8_drawDeed z τ1 = some (z5 z, ρ1) ∧ (∀ i : Nat, i ≠ 60 → ρ1 i = τ1 i) ∧ DOk ρ1 60 ∧ f_X9_drawn 8 τ2 = some (a, q1) ∧ f_X9_drawn 10 (q1) = some (b, q2) ∧ f_X9_drawn 365 (q2) = some (d, q3) ∧ f_X9_drawn 5 (q3) = some (w, q4) ∧ f_X9_drawn 32 (q4) = some (s, q5) ∧ f_X9_adds 63 a b d w s (q5) = some ρ2 ∧ ρ2 63 0 = nI (k + 1) ∧ ρ2 63 1 = τ2 63 1 ∧ ρ2 61 13 = z5 z ∧ (∀ i : Nat, i ≠ 61 → i ≠ 63 → ρ2 i = τ2 i) ∧ (∀ j : Nat, j ≠ 13 → ρ2 61 j = τ2 61 j) ∧ ρ2 63 (2 + 5 * k + 0) = ρ1 60 0 ∧ ρ2 63 (2 + 5 * k + 1) = ρ1 60 1 ∧ ρ2 63 (2 + 5 * k + 2) = ρ1 60 2 ∧ ρ2 63 (2 + 5 * k + 3) = ρ1 60 3 ∧ ρ2 63 (2 + 5 * k + 4) = ρ1 60 4 := by
  obtain ⟨a, ha, ea⟩ := dr_rng (n := 8) (by decide) (by decide) z
  obtain ⟨b, hb, eb⟩ := dr_rng (n := 10) (by decide) (by decide) (nxS z)
  obtain ⟨d, hd, ed⟩ := dr_rng (n := 365) (by decide) (by decide) (nxS (nxS z))
  obtain ⟨w, hw, ew⟩ := dr_rng (n := 5) (by decide) (by decide) (nxS (nxS (nxS z)))
  obtain ⟨s, hs, es⟩ := dr_rng (n := 32) (by decide) (by decide) (nxS (nxS (nxS (nxS z))))
  obtain ⟨ρ1, c1, c2, c3, c4, c5, c6, c7, c8⟩ := bec_c (τ := τ1) (c := 60) ha hb hd hw hs
  have hq : ∀ (n : Nat), 0 < n → n < 2 ^ 31 → ∀ (τ : St) (y : Int32), τ 61 13 = y → f_X9_drawn (nI n) τ = some (drS (nI n) y, up τ 61 13 (nxS y)) := fun n p1 p2 τ y e => by rw [draw_r p1 p2, e]
  have hu : ∀ (τ : St) (y : Int32), up τ 61 13 y 61 13 = y := fun τ y => by rw [up_s, pk_us]
  have e63 : ∀ (τ : St) (y : Int32), up τ 61 13 y 63 = τ 63 := fun τ y => up_n (by decide)
  obtain ⟨ρ2, r1, r2, r3, r4, r5, r6, r7, r8, r9⟩ := adds_r (σ := up (up (up (up (up τ2 61 13 (nxS z)) 61 13 (nxS (nxS z))) 61 13 (nxS (nxS (nxS z)))) 61 13 (nxS (nxS (nxS (nxS z))))) 61 13 (nxS (nxS (nxS (nxS (nxS z)))))) (r := 63) (nI a) (nI b) (nI d) (nI w) (nI s) (by rw [e63, e63, e63, e63, e63]; exact h0) hk
  refine ⟨ρ1, ρ2, up τ2 61 13 (nxS z), up (up τ2 61 13 (nxS z)) 61 13 (nxS (nxS z)), up (up (up τ2 61 13 (nxS z)) 61 13 (nxS (nxS z))) 61 13 (nxS (nxS (nxS z))), up (up (up (up τ2 61 13 (nxS z)) 61 13 (nxS (nxS z))) 61 13 (nxS (nxS (nxS z)))) 61 13 (nxS (nxS (nxS (nxS z)))), up (up (up (up (up τ2 61 13 (nxS z)) 61 13 (nxS (nxS z))) 61 13 (nxS (nxS (nxS z)))) 61 13 (nxS (nxS (nxS (nxS z))))) 61 13 (nxS (nxS (nxS (nxS (nxS z))))), nI a, nI b, nI d, nI w, nI s, ?_, c3, c2, ?_, ?_, ?_, ?_, ?_, r1, r3, ?_, ?_, fun i p1 p2 => ?_, fun j hj => ?_, r5.trans c4.symm, r6.trans c5.symm, r7.trans c6.symm, r8.trans c7.symm, r9.trans c8.symm⟩
  · unfold f_X8_drawDeed
    rw [show (8 : Int32) = nI 8 from rfl, show (10 : Int32) = nI 10 from rfl, show (365 : Int32) = nI 365 from rfl, show (5 : Int32) = nI 5 from rfl, show (32 : Int32) = nI 32 from rfl, draw_c (by decide) (by decide), draw_c (by decide) (by decide), draw_c (by decide) (by decide), draw_c (by decide) (by decide), draw_c (by decide) (by decide), ob_s, ob_s, ob_s, ob_s, ob_s]
    rw [show drS (nI 8) z = nI a from ea, show drS (nI 10) (f_X8_nextSeed z) = nI b from eb, show drS (nI 365) (f_X8_nextSeed (f_X8_nextSeed z)) = nI d from ed, show drS (nI 5) (f_X8_nextSeed (f_X8_nextSeed (f_X8_nextSeed z))) = nI w from ew, show drS (nI 32) (f_X8_nextSeed (f_X8_nextSeed (f_X8_nextSeed (f_X8_nextSeed z)))) = nI s from es, c1]
    rfl
  · rw [← ea]; exact hq 8 (by decide) (by decide) τ2 z h13
  · rw [← eb]; exact hq 10 (by decide) (by decide) _ _ (hu _ _)
  · rw [← ed]; exact hq 365 (by decide) (by decide) _ _ (hu _ _)
  · rw [← ew]; exact hq 5 (by decide) (by decide) _ _ (hu _ _)
  · rw [← es]; exact hq 32 (by decide) (by decide) _ _ (hu _ _)
  · rw [r4 1 (by decide) (by omega), e63, e63, e63, e63, e63]
  · rw [r2 61 (by decide), hu]; rfl
  · rw [r2 i p2, up_n p1, up_n p1, up_n p1, up_n p1, up_n p1]
  · rw [r2 61 (by decide), up_s, pk_un hj, up_s, pk_un hj, up_s, pk_un hj, up_s, pk_un hj, up_s, pk_un hj]
theorem drawn_who {ρ1 ρ2 : St} {k : Nat} (hk : k < 10) (hd : DOk ρ1 60) (h1 : ρ2 63 1 = 365) (g0 : ρ2 63 (2 + 5 * k + 0) = ρ1 60 0) (g1 : ρ2 63 (2 + 5 * k + 1) = ρ1 60 1) (g2 : ρ2 63 (2 + 5 * k + 2) = ρ1 60 2) (g3 : ρ2 63 (2 + 5 * k + 3) = ρ1 60 3) (g4 : ρ2 63 (2 + 5 * k + 4) = ρ1 60 4) : f_X9_whoHas 63 (nI k) ρ2 = some (f_X1_keepers 60 365 ρ1) ∧ f_X9_sizeOf 63 (nI k) ρ2 = some (f_X1_size 60 ρ1) := by
  constructor
  · rw [whoHas_r hk, g0, g1, g2, g3, g4, h1, hd.last.1, hd.last.2, whoS_eq, hd.keep]
    unfold f_X1_keepers
    by_cases hc : (365 : Int32) < ρ1 60 2
    · rw [if_pos hc, if_pos hc]
    · rw [if_neg hc, if_neg hc, keepers_c]
  · unfold f_X9_sizeOf
    rw [if_pos (ofi0 hk), if_pos (ofi1 hk), ofc0 hk, ofc1 hk, g0, g1, hd.size]
/-- what the reference's years leave -/
def Yk (τ ρ : St) : Prop := (∀ i : Nat, i ≠ 61 → i ≠ 63 → ρ i = τ i) ∧ ∀ j : Nat, j ≠ 13 → ρ 61 j = τ 61 j
theorem Yk.tr {τ ρ π : St} (h : Yk τ ρ) (g : Yk ρ π) : Yk τ π := ⟨fun i a b => (g.1 i a b).trans (h.1 i a b), fun j a => (g.2 j a).trans (h.2 j a)⟩
theorem years_in {x1 x2 x3 : Int32} {j N : Nat} (hN : N ≤ 20) (hj : j < N) (hx1 : x1 = nI N) (f35 : Nat) (ih : ∀ (f1 : Nat) (z c s : Int32) (τ1 : St), 10 * (N - (j + 1)) < f1 → ∃ r ρ1, f_X8_years_33 x1 x2 x3 f1 z c s (nI (10 * (j + 1))) τ1 = some (r, ρ1) ∧ (∀ i : Nat, i ≠ 60 → ρ1 i = τ1 i) ∧ ∀ τ2 : St, τ2 61 13 = z → ∃ ρ2, f_X9_years_35 x1 x2 x3 f35 c s (nI (j + 1)) τ2 = some (r, ρ2) ∧ Yk τ2 ρ2) : ∀ (e f1 k : Nat) (z c s : Int32) (τ1 : St), k + e = 10 → e + 10 * (N - (j + 1)) < f1 → ∃ r ρ1, f_X8_years_33 x1 x2 x3 f1 z c s (nI (10 * j + k)) τ1 = some (r, ρ1) ∧ (∀ i : Nat, i ≠ 60 → ρ1 i = τ1 i) ∧ ∀ (f2 : Nat) (τ2 : St), e < f2 → τ2 61 13 = z → τ2 63 0 = nI k → τ2 63 1 = 365 → ∃ ρ2, f_X9_years_60 x1 x2 x3 (f_X9_years_35 x1 x2 x3 f35) f2 c s (nI j) (nI k) τ2 = some (r, ρ2) ∧ Yk τ2 ρ2 := by
  intro e
  induction e with
  | zero =>
    intro f1 k z c s τ1 hk hf
    obtain rfl : k = 10 := by omega
    obtain ⟨r, ρ1, c1, c2, c3⟩ := ih f1 z c s τ1 (by omega)
    rw [show 10 * j + 10 = 10 * (j + 1) by omega]
    refine ⟨r, ρ1, c1, c2, fun f2 τ2 hf2 h1 _ _ => ?_⟩
    obtain ⟨f2, rfl⟩ : ∃ g, f2 = g + 1 := ⟨f2 - 1, by omega⟩
    rw [f_X9_years_60_s, if_pos le10, nI_1]
    exact c3 τ2 h1
  | succ e ihe =>
    intro f1 k z c s τ1 hk hf
    obtain ⟨f1, rfl⟩ : ∃ g, f1 = g + 1 := ⟨f1 - 1, by omega⟩
    have dum : ∃ τ : St, τ 63 0 = nI k ∧ τ 61 13 = z := ⟨fun i j => if i = 63 then nI k else z, if_pos rfl, if_neg (by decide)⟩
    obtain ⟨τd, t0, t1⟩ := dum
    obtain ⟨ρ1, -, -, -, -, -, -, -, -, -, -, -, d1, d2, d3, -⟩ := draw_two (τ1 := τ1) (τ2 := τd) z (k := k) (by omega) t0 t1
    have hlt : ¬ x1 * (10 : Int32) ≤ nI (10 * j + k) := by
      rw [hx1, show nI N * (10 : Int32) = nI (N * 10) from pk_mul N 10]
      exact nI_ge (by omega) (by omega)
    obtain ⟨r, ρ3, g1, g2, g3⟩ := ihe f1 (k + 1) (z5 z) (c + (if f_X1_keepers 60 365 ρ1 = 0 then 1 else 0)) (s + f_X1_size 60 ρ1) ρ1 (by omega) (by omega)
    refine ⟨r, ρ3, ?_, fun i hi => (g2 i hi).trans (d2 i hi), fun f2 τ2 hf2 h1 h2 h3 => ?_⟩
    · rw [f_X8_years_33_s, if_neg hlt, d1, ob_s]
      show (if f_X1_keepers 60 365 ρ1 = 0 then f_X8_years_70 x1 x2 x3 _ (z5 z) s (nI (10 * j + k)) c 1 ρ1 else f_X8_years_70 x1 x2 x3 _ (z5 z) s (nI (10 * j + k)) c 0 ρ1) = _
      rw [f_X8_years_70_e, f_X8_years_70_e, nI_1, Nat.add_assoc]
      by_cases hc : f_X1_keepers 60 365 ρ1 = 0
      · rw [if_pos hc] at g1 ⊢
        exact g1
      · rw [if_neg hc] at g1 ⊢
        exact g1
    · obtain ⟨f2, rfl⟩ : ∃ g, f2 = g + 1 := ⟨f2 - 1, by omega⟩
      obtain ⟨ρ1', ρ2, q1, q2, q3, q4, q5, a, b, d, w, s', p1, p2, p3, p4, p5, p6, p7, p8, p9, p10, p11, p12, p13, p14, p15, p16, p17, p18, p19⟩ := draw_two (τ1 := τ1) (τ2 := τ2) z (k := k) (by omega) h2 h1
      have er : ρ1' = ρ1 := by
        have := p1.symm.trans d1
        exact (Prod.mk.inj (Option.some.inj this)).2
      subst er
      obtain ⟨w1, w2⟩ := drawn_who (k := k) (by omega) p3 (p11.trans h3) p15 p16 p17 p18 p19
      have yk : Yk τ2 ρ2 := ⟨p13, p14⟩
      rw [f_X9_years_60_s, if_neg (ge10 (by omega)), p4, ob_s, p5, ob_s, p6, ob_s, p7, ob_s, p8, ob_s, p9, ob_s, w1, ob_s]
      obtain ⟨ρ4, k1, k2⟩ := g3 f2 ρ2 (by omega) p12 p10 (p11.trans h3)
      refine ⟨ρ4, ?_, yk.tr k2⟩
      rw [f_X9_years_139_e, f_X9_years_139_e, w2, ob_s, ob_s, nI_1]
      by_cases hc : f_X1_keepers 60 365 ρ1' = 0
      · rw [if_pos hc] at k1 ⊢
        exact k1
      · rw [if_neg hc] at k1 ⊢
        exact k1
theorem years_out {x1 x2 x3 : Int32} {N : Nat} (hN : N ≤ 20) (hx1 : x1 = nI N) : ∀ (e f35 j : Nat), j + e = N → e < f35 → ∀ (f1 : Nat) (z c s : Int32) (τ1 : St), 10 * (N - j) < f1 → ∃ r ρ1, f_X8_years_33 x1 x2 x3 f1 z c s (nI (10 * j)) τ1 = some (r, ρ1) ∧ (∀ i : Nat, i ≠ 60 → ρ1 i = τ1 i) ∧ ∀ τ2 : St, τ2 61 13 = z → ∃ ρ2, f_X9_years_35 x1 x2 x3 f35 c s (nI j) τ2 = some (r, ρ2) ∧ Yk τ2 ρ2 := by
  intro e
  induction e with
  | zero =>
    intro f35 j hj hf f1 z c s τ1 h1
    obtain ⟨f35, rfl⟩ : ∃ g, f35 = g + 1 := ⟨f35 - 1, by omega⟩
    obtain ⟨f1, rfl⟩ : ∃ g, f1 = g + 1 := ⟨f1 - 1, by omega⟩
    obtain rfl : j = N := by omega
    refine ⟨if x3 = 0 then c else s, τ1, ?_, fun _ _ => rfl, fun τ2 _ => ⟨τ2, ?_, fun _ _ _ => rfl, fun _ _ => rfl⟩⟩
    · rw [f_X8_years_33_s, hx1, show nI j * (10 : Int32) = nI (j * 10) from pk_mul j 10, if_pos (nI_le (by omega) (by omega))]
      by_cases hc : x3 = 0
      · rw [if_pos hc, if_pos hc]
      · rw [if_neg hc, if_neg hc]
    · rw [f_X9_years_35_s, hx1, if_pos (nI_le (Nat.le_refl j) (by omega))]
      by_cases hc : x3 = 0
      · rw [if_pos hc, if_pos hc]
      · rw [if_neg hc, if_neg hc]
  | succ e ih =>
    intro f35 j hj hf f1 z c s τ1 h1
    obtain ⟨f35, rfl⟩ : ∃ g, f35 = g + 1 := ⟨f35 - 1, by omega⟩
    obtain ⟨r, ρ1, g1, g2, g3⟩ := years_in (x2 := x2) (x3 := x3) hN (j := j) (by omega) hx1 f35 (fun f1 z c s τ1 hf1 => ih f35 (j + 1) (by omega) (by omega) f1 z c s τ1 hf1) 10 f1 0 z c s τ1 (by omega) (by omega)
    refine ⟨r, ρ1, g1, g2, fun τ2 h2 => ?_⟩
    obtain ⟨ρ2, k1, k2⟩ := g3 fu (up (up τ2 63 0 0) 63 1 365) (fu_gt (by decide)) (by rw [up_n (by decide), up_n (by decide)]; exact h2) (by rw [up_s, pk_un (by decide), up_s, pk_us]; rfl) (by rw [up_s, pk_us])
    refine ⟨ρ2, ?_, ?_⟩
    · rw [f_X9_years_35_s, if_neg (show ¬ x1 ≤ nI j by rw [hx1]; exact nI_ge (by omega) (by omega))]
      exact k1
    · exact ⟨fun i a b => by rw [k2.1 i a b, up_n b, up_n b], fun i a => by rw [k2.2 i a, up_n (by decide), up_n (by decide)]⟩
theorem p_years {σ : St} (h : Inv σ) (x z y : Int32) : ∃ r σ1 σ2, f_X8_years x z y σ = some (r, σ1) ∧ f_X9_years x z y σ1 = some (r, σ2) ∧ Inv σ2 := by
  have e1 : (1 : Int32).toInt = 1 := rfl
  have e20 : (20 : Int32).toInt = 20 := rfl
  unfold f_X8_years f_X9_years
  by_cases h1 : x < (1 : Int32)
  · rw [if_pos h1]
    refine ⟨_, _, σ, rfl, ?_, h⟩
    rw [i32_lt, e1] at h1
    rw [no_if isIn_iff (by rw [e1]; omega)]
  · rw [if_neg h1]
    by_cases h2 : (20 : Int32) < x
    · rw [if_pos h2]
      refine ⟨_, _, σ, rfl, ?_, h⟩
      rw [i32_lt, e20] at h2
      rw [no_if isIn_iff (by rw [e20]; omega)]
    · rw [if_neg h2]
      have hin : f_X9_isIn x 1 20 = true := isIn_iff.mpr (by rw [i32_lt, e1] at h1; rw [i32_lt, e20] at h2; rw [e1, e20]; omega)
      by_cases hy : isN y 2
      · have hx0 : ¬ x < 0 := by
          rw [i32_lt, e1] at h1
          rw [i32_lt, show (0 : Int32).toInt = 0 from rfl]
          omega
        obtain ⟨N, hN, rfl⟩ := nI_of hx0
        have hN20 : N ≤ 20 := by
          rw [i32_lt, e20, nI_toInt hN] at h2
          omega
        obtain ⟨r, ρ1, g1, g2, g3⟩ := years_out (x2 := z) (x3 := y) hN20 rfl N fu 0 (by omega) (fu_gt (by omega)) fu z 0 0 σ (fu_gt (by omega))
        obtain ⟨ρ2, k1, k2⟩ := g3 (up ρ1 61 13 z) (by rw [up_s, pk_us])
        have s1 : Same σ ρ1 := ⟨fun i hi => g2 i (by omega), by rw [g2 0 (by decide)], by rw [g2 61 (by decide)]⟩
        have s2 : Same ρ1 ρ2 := ⟨fun i hi => by rw [k2.1 i (by omega) (by omega), up_n (by omega)], by rw [k2.1 0 (by decide) (by decide), up_n (by decide)], by rw [k2.2 4 (by decide), up_s, pk_un (by decide)]⟩
        rw [yes_if below2 hy]
        refine ⟨r, ρ1, ρ2, g1, ?_, (s1.tr s2).inv h⟩
        rw [if_pos hin, yes_if isin1 hy]
        exact k1
      · rw [no_if below2 hy]
        refine ⟨_, _, σ, rfl, ?_, h⟩
        rw [if_pos hin, no_if isin1 hy]
