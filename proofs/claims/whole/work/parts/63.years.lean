/-! PURE: years: the draws -/
def nxS (z : Int32) : Int32 := (z * (1103515245 : Int32)) + (12345 : Int32)
def drS (n z : Int32) : Int32 := ((nxS z &&& (2147483647 : Int32)) / (65536 : Int32)) - ((nxS z &&& (2147483647 : Int32)) / (65536 : Int32)) / n * n
theorem dr_rng {n : Nat} (h0 : 0 < n) (hn : n < 2 ^ 31) (z : Int32) : ∃ k : Nat, k < n ∧ drS (nI n) z = nI k := by
  obtain ⟨q, hq, e⟩ := pk_andE (nxS z) (m := 2147483647) 31 (by decide)
  unfold drS
  rw [e, show nI q / (65536 : Int32) = nI (q / 65536) from pk_div (d := 65536) (by omega) (by decide) (by decide), pk_rem (by omega) h0 hn]
  exact ⟨_, Nat.mod_lt _ h0, rfl⟩
theorem draw_c {n : Nat} (h0 : 0 < n) (hn : n < 2 ^ 31) (z : Int32) (σ : St) : f_X8_drawBelow (nI n) (f_X8_nextSeed z) σ = some (drS (nI n) z) := by
  unfold f_X8_drawBelow
  rw [if_pos (show (1 : Int32) ≤ nI n from nI_le (a := 1) h0 hn), if_pos (nI_ne0 h0 hn)]
  rfl
theorem draw_r {n : Nat} (h0 : 0 < n) (hn : n < 2 ^ 31) (τ : St) : f_X9_drawn (nI n) τ = some (drS (nI n) (τ 61 13), up τ 61 13 (nxS (τ 61 13))) := by
  unfold f_X9_drawn
  rw [if_pos (nI_ne0 h0 hn), up_s, pk_us]
  rfl
