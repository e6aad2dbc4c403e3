/-! PURE: years: the draws -/
def nxS (z : Int32) : Int32 := (z * (1103515245 : Int32)) + (12345 : Int32)
def drS (n z : Int32) : Int32 := ((nxS z &&& (2147483647 : Int32)) / (65536 : Int32)) - ((nxS z &&& (2147483647 : Int32)) / (65536 : Int32)) / n * n
theorem dr_rng {n : Nat} (h0 : 0 < n) (hn : n < 2 ^ 31) (z : Int32) : ∃ k : Nat, k < n ∧ drS (nI n) z = nI k := by
  obtain ⟨q, hq, e⟩ := pk_andE (nxS z) (m := 2147483647) 31 (by decide)
  unfold drS
  rw [e, show nI q / (65536 : Int32) = nI (q / 65536) from pk_div (d := 65536) (by omega) (by decide) (by decide), pk_rem (by omega) h0 hn]
  exact ⟨_, Nat.mod_lt _ h0, rfl⟩
theorem draw_c {n : Nat} (h0 : 0 < n) (hn : n < 2 ^ 31) (z : Int32) (σ : St) : f_X8_drawBelow (nI n) (f_X8_nextSeed z) σ = some (drS (nI n) z) := by
  unfold f_X8_drawBelow
  rw [if_pos (show (1 : Int32) ≤ nI n from nI_le (a := 1) h0 hn), if_pos (nI_ne0 h0 hn)]
  rfl
theorem draw_r {n : Nat} (h0 : 0 < n) (hn : n < 2 ^ 31) (τ : St) : f_X9_drawn (nI n) τ = some (drS (nI n) (τ 61 13), up τ 61 13 (nxS (τ 61 13))) := by
  unfold f_X9_drawn
  rw [if_pos (nI_ne0 h0 hn), up_s, pk_us]
  rfl
/-- a deed at a cell, whatever stood there -/
theorem bec_c {τ : St} {c a b d w s : Nat} (ha : a < 8) (hb : b < 10) (hd : d < 365) (hw : w < 5) (hs : s < 32) : ∃ ρ, f_X1_become c (nI a) (nI b) (nI d) (nI w) (nI s) τ = some ρ ∧ DOk ρ c ∧ (∀ i : Nat, i ≠ c → ρ i = τ i) ∧ ρ c 0 = nI a ∧ ρ c 1 = nI b ∧ ρ c 2 = nI d ∧ ρ c 3 = nI w ∧ ρ c 4 = nI s &&& (((1 : Int32) <<< (nI w &&& 31)) ^^^ (-1 : Int32)) := by
  obtain ⟨u, hu1, hu2, hu3, -⟩ := off_bit s hs w hw
  have eb : f_X1_become c (nI a) (nI b) (nI d) (nI w) (nI s) τ = some (up (up (up (up (up (up (up τ c 0 (nI a)) c 1 (nI b)) c 2 (nI d)) c 3 (nI w)) c 4 (nI s &&& (((1 : Int32) <<< (nI w &&& 31)) ^^^ (-1 : Int32)))) c 5 (f_X4_lasting (nI a) (nI b))) c 6 (f_X4_lastingOwn (nI a) ((up (up (up (up (up (up τ c 0 (nI a)) c 1 (nI b)) c 2 (nI d)) c 3 (nI w)) c 4 (nI s &&& (((1 : Int32) <<< (nI w &&& 31)) ^^^ (-1 : Int32)))) c 5 (f_X4_lasting (nI a) (nI b))) c 5))) := rfl
  have e5 : (up (up (up (up (up (up τ c 0 (nI a)) c 1 (nI b)) c 2 (nI d)) c 3 (nI w)) c 4 (nI s &&& (((1 : Int32) <<< (nI w &&& 31)) ^^^ (-1 : Int32)))) c 5 (f_X4_lasting (nI a) (nI b))) c 5 = f_X4_lasting (nI a) (nI b) := by rw [up_s, pk_us]
  rw [e5] at eb
  have g0 : (up (up (up (up (up (up (up τ c 0 (nI a)) c 1 (nI b)) c 2 (nI d)) c 3 (nI w)) c 4 (nI s &&& (((1 : Int32) <<< (nI w &&& 31)) ^^^ (-1 : Int32)))) c 5 (f_X4_lasting (nI a) (nI b))) c 6 (f_X4_lastingOwn (nI a) (f_X4_lasting (nI a) (nI b)))) c 0 = nI a := by rw [up_s, pk_un (by decide), up_s, pk_un (by decide), up_s, pk_un (by decide), up_s, pk_un (by decide), up_s, pk_un (by decide), up_s, pk_un (by decide), up_s, pk_us]
  have g1 : (up (up (up (up (up (up (up τ c 0 (nI a)) c 1 (nI b)) c 2 (nI d)) c 3 (nI w)) c 4 (nI s &&& (((1 : Int32) <<< (nI w &&& 31)) ^^^ (-1 : Int32)))) c 5 (f_X4_lasting (nI a) (nI b))) c 6 (f_X4_lastingOwn (nI a) (f_X4_lasting (nI a) (nI b)))) c 1 = nI b := by rw [up_s, pk_un (by decide), up_s, pk_un (by decide), up_s, pk_un (by decide), up_s, pk_un (by decide), up_s, pk_un (by decide), up_s, pk_us]
  have g2 : (up (up (up (up (up (up (up τ c 0 (nI a)) c 1 (nI b)) c 2 (nI d)) c 3 (nI w)) c 4 (nI s &&& (((1 : Int32) <<< (nI w &&& 31)) ^^^ (-1 : Int32)))) c 5 (f_X4_lasting (nI a) (nI b))) c 6 (f_X4_lastingOwn (nI a) (f_X4_lasting (nI a) (nI b)))) c 2 = nI d := by rw [up_s, pk_un (by decide), up_s, pk_un (by decide), up_s, pk_un (by decide), up_s, pk_un (by decide), up_s, pk_us]
  have g3 : (up (up (up (up (up (up (up τ c 0 (nI a)) c 1 (nI b)) c 2 (nI d)) c 3 (nI w)) c 4 (nI s &&& (((1 : Int32) <<< (nI w &&& 31)) ^^^ (-1 : Int32)))) c 5 (f_X4_lasting (nI a) (nI b))) c 6 (f_X4_lastingOwn (nI a) (f_X4_lasting (nI a) (nI b)))) c 3 = nI w := by rw [up_s, pk_un (by decide), up_s, pk_un (by decide), up_s, pk_un (by decide), up_s, pk_us]
  have g4 : (up (up (up (up (up (up (up τ c 0 (nI a)) c 1 (nI b)) c 2 (nI d)) c 3 (nI w)) c 4 (nI s &&& (((1 : Int32) <<< (nI w &&& 31)) ^^^ (-1 : Int32)))) c 5 (f_X4_lasting (nI a) (nI b))) c 6 (f_X4_lastingOwn (nI a) (f_X4_lasting (nI a) (nI b)))) c 4 = nI s &&& (((1 : Int32) <<< (nI w &&& 31)) ^^^ (-1 : Int32)) := by rw [up_s, pk_un (by decide), up_s, pk_un (by decide), up_s, pk_us]
  refine ⟨_, eb, ⟨a, b, d, w, u, ha, hb, hd, hw, hu1, hu2, g0, g1, g2, g3, g4.trans hu3, ?_, ?_⟩, fun i hi => ?_, g0, g1, g2, g3, g4⟩
  · rw [up_s, pk_un (by decide), up_s, pk_us]
  · rw [up_s, pk_us]
  · rw [up_n hi, up_n hi, up_n hi, up_n hi, up_n hi, up_n hi, up_n hi]
/-- the five draws of a deed -/
def z1 (z : Int32) : Int32 := nxS z
def z5 (z : Int32) : Int32 := nxS (nxS (nxS (nxS (nxS z))))
/-- a drawn deed on both sides: the class's cell 60, the reference's row 63 at k -/
theorem draw_two {τ1 τ2 : St} {k : Nat} (z : Int32) (hk : k < 10) (h0 : τ2 63 0 = nI k) (h13 : τ2 61 13 = z) : ∃ (ρ1 ρ2 q1 q2 q3 q4 q5 : St) (a b d w s : Int32), f_X8_drawDeed z τ1 = some (z5 z, ρ1) ∧ (∀ i : Nat, i ≠ 60 → ρ1 i = τ1 i) ∧ DOk ρ1 60 ∧ f_X9_drawn 8 τ2 = some (a, q1) ∧ f_X9_drawn 10 (q1) = some (b, q2) ∧ f_X9_drawn 365 (q2) = some (d, q3) ∧ f_X9_drawn 5 (q3) = some (w, q4) ∧ f_X9_drawn 32 (q4) = some (s, q5) ∧ f_X9_adds 63 a b d w s (q5) = some ρ2 ∧ ρ2 63 0 = nI (k + 1) ∧ ρ2 63 1 = τ2 63 1 ∧ ρ2 61 13 = z5 z ∧ (∀ i : Nat, i ≠ 61 → i ≠ 63 → ρ2 i = τ2 i) ∧ (∀ j : Nat, j ≠ 13 → ρ2 61 j = τ2 61 j) ∧ ρ2 63 (2 + 5 * k + 0) = ρ1 60 0 ∧ ρ2 63 (2 + 5 * k + 1) = ρ1 60 1 ∧ ρ2 63 (2 + 5 * k + 2) = ρ1 60 2 ∧ ρ2 63 (2 + 5 * k + 3) = ρ1 60 3 ∧ ρ2 63 (2 + 5 * k + 4) = ρ1 60 4 := by
  obtain ⟨a, ha, ea⟩ := dr_rng (n := 8) (by decide) (by decide) z
  obtain ⟨b, hb, eb⟩ := dr_rng (n := 10) (by decide) (by decide) (nxS z)
  obtain ⟨d, hd, ed⟩ := dr_rng (n := 365) (by decide) (by decide) (nxS (nxS z))
  obtain ⟨w, hw, ew⟩ := dr_rng (n := 5) (by decide) (by decide) (nxS (nxS (nxS z)))
  obtain ⟨s, hs, es⟩ := dr_rng (n := 32) (by decide) (by decide) (nxS (nxS (nxS (nxS z))))
  obtain ⟨ρ1, c1, c2, c3, c4, c5, c6, c7, c8⟩ := bec_c (τ := τ1) (c := 60) ha hb hd hw hs
  have hq : ∀ (n : Nat), 0 < n → n < 2 ^ 31 → ∀ (τ : St) (y : Int32), τ 61 13 = y → f_X9_drawn (nI n) τ = some (drS (nI n) y, up τ 61 13 (nxS y)) := fun n p1 p2 τ y e => by rw [draw_r p1 p2, e]
  have hu : ∀ (τ : St) (y : Int32), up τ 61 13 y 61 13 = y := fun τ y => by rw [up_s, pk_us]
  have e63 : ∀ (τ : St) (y : Int32), up τ 61 13 y 63 = τ 63 := fun τ y => up_n (by decide)
  obtain ⟨ρ2, r1, r2, r3, r4, r5, r6, r7, r8, r9⟩ := adds_r (σ := up (up (up (up (up τ2 61 13 (nxS z)) 61 13 (nxS (nxS z))) 61 13 (nxS (nxS (nxS z)))) 61 13 (nxS (nxS (nxS (nxS z))))) 61 13 (nxS (nxS (nxS (nxS (nxS z)))))) (r := 63) (nI a) (nI b) (nI d) (nI w) (nI s) (by rw [e63, e63, e63, e63, e63]; exact h0) hk
  refine ⟨ρ1, ρ2, up τ2 61 13 (nxS z), up (up τ2 61 13 (nxS z)) 61 13 (nxS (nxS z)), up (up (up τ2 61 13 (nxS z)) 61 13 (nxS (nxS z))) 61 13 (nxS (nxS (nxS z))), up (up (up (up τ2 61 13 (nxS z)) 61 13 (nxS (nxS z))) 61 13 (nxS (nxS (nxS z)))) 61 13 (nxS (nxS (nxS (nxS z)))), up (up (up (up (up τ2 61 13 (nxS z)) 61 13 (nxS (nxS z))) 61 13 (nxS (nxS (nxS z)))) 61 13 (nxS (nxS (nxS (nxS z))))) 61 13 (nxS (nxS (nxS (nxS (nxS z))))), nI a, nI b, nI d, nI w, nI s, ?_, c3, c2, ?_, ?_, ?_, ?_, ?_, r1, r3, ?_, ?_, fun i p1 p2 => ?_, fun j hj => ?_, r5.trans c4.symm, r6.trans c5.symm, r7.trans c6.symm, r8.trans c7.symm, r9.trans c8.symm⟩
  · unfold f_X8_drawDeed
    rw [show (8 : Int32) = nI 8 from rfl, show (10 : Int32) = nI 10 from rfl, show (365 : Int32) = nI 365 from rfl, show (5 : Int32) = nI 5 from rfl, show (32 : Int32) = nI 32 from rfl, draw_c (by decide) (by decide), draw_c (by decide) (by decide), draw_c (by decide) (by decide), draw_c (by decide) (by decide), draw_c (by decide) (by decide), ob_s, ob_s, ob_s, ob_s, ob_s]
    rw [show drS (nI 8) z = nI a from ea, show drS (nI 10) (f_X8_nextSeed z) = nI b from eb, show drS (nI 365) (f_X8_nextSeed (f_X8_nextSeed z)) = nI d from ed, show drS (nI 5) (f_X8_nextSeed (f_X8_nextSeed (f_X8_nextSeed z))) = nI w from ew, show drS (nI 32) (f_X8_nextSeed (f_X8_nextSeed (f_X8_nextSeed (f_X8_nextSeed z)))) = nI s from es, c1]
    rfl
  · rw [← ea]; exact hq 8 (by decide) (by decide) τ2 z h13
  · rw [← eb]; exact hq 10 (by decide) (by decide) _ _ (hu _ _)
  · rw [← ed]; exact hq 365 (by decide) (by decide) _ _ (hu _ _)
  · rw [← ew]; exact hq 5 (by decide) (by decide) _ _ (hu _ _)
  · rw [← es]; exact hq 32 (by decide) (by decide) _ _ (hu _ _)
  · rw [r4 1 (by decide) (by omega), e63, e63, e63, e63, e63]
  · rw [r2 61 (by decide), hu]; rfl
  · rw [r2 i p2, up_n p1, up_n p1, up_n p1, up_n p1, up_n p1]
  · rw [r2 61 (by decide), up_s, pk_un hj, up_s, pk_un hj, up_s, pk_un hj, up_s, pk_un hj, up_s, pk_un hj]
