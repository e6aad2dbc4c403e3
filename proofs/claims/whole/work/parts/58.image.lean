/-! PURE: image, restore -/
theorem become_c {σ : St} {i0 i1 r n : Nat} (hy : YR σ i1 r n) (hd : i0 + 13 ≤ i1 ∨ i1 + 13 ≤ i0) : ∃ ρ, f_X7_become i0 i1 σ = some ρ ∧ (∀ i : Nat, i ≠ i0 → (i < i0 + 3 ∨ i0 + 13 ≤ i) → ρ i = σ i) ∧ ρ i0 2 = nI n ∧ ρ i0 3 = σ i1 3 ∧ ∀ k : Nat, k < n → DOk ρ (i0 + 1 + 2 + k) ∧ ∀ j : Nat, j < 5 → ρ (i0 + 1 + 2 + k) j = σ (i1 + 1 + 2 + k) j := by
  have hn := hy.1
  refine loop_j (fun f τ k => f_X7_become_7 i0 i1 f (nI k) τ) (fun k τ => (∀ i : Nat, i ≠ i0 → (i < i0 + 3 ∨ i0 + 13 ≤ i) → τ i = σ i) ∧ τ i0 2 = nI k ∧ ∀ e : Nat, e < k → DOk τ (i0 + 1 + 2 + e) ∧ ∀ j : Nat, j < 5 → τ (i0 + 1 + 2 + e) j = σ (i1 + 1 + 2 + e) j) (fun b => ∃ ρ, b = some ρ ∧ (∀ i : Nat, i ≠ i0 → (i < i0 + 3 ∨ i0 + 13 ≤ i) → ρ i = σ i) ∧ ρ i0 2 = nI n ∧ ρ i0 3 = σ i1 3 ∧ ∀ k : Nat, k < n → DOk ρ (i0 + 1 + 2 + k) ∧ ∀ j : Nat, j < 5 → ρ (i0 + 1 + 2 + k) j = σ (i1 + 1 + 2 + k) j) n ?_ ?_ fu (up σ i0 2 0) ⟨fun i h1 h2 => up_n h1, by rw [up_s, pk_us]; rfl, fun e he => absurd he (Nat.not_lt_zero e)⟩ (fu_gt (by omega))
  · intro f k τ hk ⟨q1, q2, q3⟩
    have ek : τ (i1 + 1 + 2 + k) = σ (i1 + 1 + 2 + k) := q1 _ (by omega) (by omega)
    obtain ⟨a, b, d, w, s, ha, hb, hd', hw, hs, ht, g0, g1, g2, g3, g4, -⟩ := hy.2.2.2.2.2.1 k hk
    obtain ⟨ρ, c1, c2, c3, c4, c5, c6, c7, c8, c9, c10⟩ := add_c (σ := τ) (y := i0) q2 (by omega) ha hb hd' hw hs
    obtain ⟨u, hu1, hu2, hu3, hu4⟩ := off_bit s hs w hw
    rw [hu3, hu4 ht] at c10
    have hck : (nI k).toNatClampNeg = k := nI_clamp (by omega)
    have hb10 : inb (nI k) 10 := inb_nI (by omega) (by decide)
    show ∃ a', _ ∧ f_X7_become_7 i0 i1 (f + 1) (nI k) τ = f_X7_become_7 i0 i1 f (nI (k + 1)) a'
    have h1n : τ i1 2 = nI n := by rw [q1 i1 (by omega) (by omega)]; exact hy.2.1
    rw [f_X7_become_7_s, deedAt_y hn h1n hk, h1n, if_neg (nI_ge hk (by omega)), ob_s, oc_ss, ek, g0, g1, g2, g3, g4, c1, ob_s, f_X7_become_50_e, nI_1]
    refine ⟨ρ, ⟨fun i h1 h2 => by rw [c5 i h1 (by omega), q1 i h1 h2], c3, fun e he => ?_⟩, rfl⟩
    by_cases hek : e = k
    · subst hek
      refine ⟨c2, fun j hj => ?_⟩
      have : j = 0 ∨ j = 1 ∨ j = 2 ∨ j = 3 ∨ j = 4 := by omega
      rcases this with rfl | rfl | rfl | rfl | rfl
      · rw [c6, g0]
      · rw [c7, g1]
      · rw [c8, g2]
      · rw [c9, g3]
      · rw [c10, g4]
    · have e1 : ρ (i0 + 1 + 2 + e) = τ (i0 + 1 + 2 + e) := c5 _ (by omega) (by omega)
      exact ⟨(q3 e (by omega)).1.congr e1, fun j hj => by rw [e1, (q3 e (by omega)).2 j hj]⟩
  · intro f τ ⟨q1, q2, q3⟩
    show ∃ ρ, f_X7_become_7 i0 i1 (f + 1) (nI n) τ = some ρ ∧ _
    rw [f_X7_become_7_s, q1 i1 (by omega) (by omega), hy.2.1, if_pos (nI_le (Nat.le_refl n) (by omega))]
    refine ⟨_, rfl, fun i h1 h2 => by rw [up_n h1, q1 i h1 h2], by rw [up_s, pk_un (by decide), q2], by rw [up_s, pk_us], fun k hk => ?_⟩
    have e1 : up τ i0 3 (σ i1 3) (i0 + 1 + 2 + k) = τ (i0 + 1 + 2 + k) := up_n (by omega)
    exact ⟨(q3 k hk).1.congr e1, fun j hj => by rw [e1, (q3 k hk).2 j hj]⟩
/-- the year that became another, with the row that was copied -/
theorem YR.become {σ τ : St} {i0 i1 r0 r1 n : Nat} (hy : YR σ i1 r1 n) (h2 : τ i0 2 = nI n) (h3 : τ i0 3 = σ i1 3) (hk : ∀ k : Nat, k < n → DOk τ (i0 + 1 + 2 + k) ∧ ∀ j : Nat, j < 5 → τ (i0 + 1 + 2 + k) j = σ (i1 + 1 + 2 + k) j) (hr : ∀ j : Nat, j < 52 → τ r0 j = σ r1 j) : YR τ i0 r0 n := by
  obtain ⟨g1, g2, g3, g4, g5, g6, g7⟩ := hy
  refine ⟨g1, h2, by rw [hr 0 (by decide)]; exact g3, by rw [h3]; exact g4, by rw [hr 1 (by decide), h3]; exact g5, fun k h => (hk k h).1, fun k h => ?_⟩
  have q := g7 k h
  unfold DRel at q ⊢
  rw [hr _ (by omega), hr _ (by omega), hr _ (by omega), hr _ (by omega), hr _ (by omega), (hk k h).2 0 (by decide), (hk k h).2 1 (by decide), (hk k h).2 2 (by decide), (hk k h).2 3 (by decide), (hk k h).2 4 (by decide)]
  exact q
theorem p_image {σ : St} (h : Inv σ) : ∃ r σ1 σ2, f_X8_image σ = some (r, σ1) ∧ f_X9_image σ1 = some (r, σ2) ∧ Inv σ2 := by
  obtain ⟨⟨n, hy⟩, hm, hs⟩ := h
  have hn := hy.1
  obtain ⟨ρ, c1, c2, c3, c4, c5⟩ := become_c (i0 := 47) hy (Or.inr (by decide))
  unfold f_X8_image
  rw [c1, ob_s, up_n (show (21 : Nat) ≠ 0 by decide), c2 21 (by decide) (by decide), hy.2.1]
  refine ⟨_, _, up (cp52 (up ρ 0 5 1) 62 64 52) 61 4 1, rfl, ?_, ?_⟩
  · unfold f_X9_image
    rw [copies_eq (by decide), ob_s, up_n (show (62 : Nat) ≠ 61 by decide), cp52_n (show (62 : Nat) ≠ 64 by decide), up_n (show (62 : Nat) ≠ 0 by decide), c2 62 (by decide) (by decide), hy.2.2.1]
  · have nn : ∀ i : Nat, i ≠ 0 → i ≠ 61 → i ≠ 64 → up (cp52 (up ρ 0 5 1) 62 64 52) 61 4 1 i = ρ i := fun i a b c => by rw [up_n b, cp52_n c, up_n a]
    have n64 : ∀ j : Nat, j < 52 → up (cp52 (up ρ 0 5 1) 62 64 52) 61 4 1 64 j = σ 62 j := fun j hj => by
      rw [up_n (by decide), cp52_j]
      show (if j < 52 then up ρ 0 5 1 62 j else _) = _
      rw [if_pos hj, up_n (by decide), c2 62 (by decide) (by decide)]
    have nz : ∀ i : Nat, i ≠ 0 → i ≠ 61 → i ≠ 64 → i ≠ 47 → (i < 50 ∨ 60 ≤ i) → up (cp52 (up ρ 0 5 1) 62 64 52) 61 4 1 i = σ i := fun i a b c d e => by rw [nn i a b c, c2 i d (by omega)]
    refine ⟨⟨n, hy.congr (nz _ (by decide) (by decide) (by decide) (by decide) (by decide)) (nz _ (by decide) (by decide) (by decide) (by decide) (by decide)) (fun k hk => nz _ (by omega) (by omega) (by omega) (by omega) (by omega))⟩, Or.inr ⟨?_, ?_, n, ?_⟩, fun d hd => ?_⟩
    · rw [up_n (by decide), cp52_n (by decide), up_s, pk_us]
    · rw [up_s, pk_us]
    · refine hy.become (i0 := 47) (r0 := 64) ?_ ?_ (fun k hk => ?_) n64
      · rw [nn 47 (by decide) (by decide) (by decide), c3]
      · rw [nn 47 (by decide) (by decide) (by decide), c4]
      · have e1 : up (cp52 (up ρ 0 5 1) 62 64 52) 61 4 1 (47 + 1 + 2 + k) = ρ (47 + 1 + 2 + k) := nn _ (by omega) (by omega) (by omega)
        exact ⟨(c5 k hk).1.congr e1, fun j hj => by rw [e1]; exact (c5 k hk).2 j hj⟩
    · exact (hs d hd).congr (nz _ (by omega) (by omega) (by omega) (by omega) (by omega)) (nz _ (by omega) (by omega) (by omega) (by omega) (by omega)) (by rw [nz 69 (by decide) (by decide) (by decide) (by decide) (by decide)]) (by rw [nz 70 (by decide) (by decide) (by decide) (by decide) (by decide)]) (by rw [nz 71 (by decide) (by decide) (by decide) (by decide) (by decide)]) (by rw [nz 72 (by decide) (by decide) (by decide) (by decide) (by decide)]) (by rw [nz 73 (by decide) (by decide) (by decide) (by decide) (by decide)]) (fun j _ => by rw [nz 74 (by decide) (by decide) (by decide) (by decide) (by decide)])
theorem p_restore {σ : St} (h : Inv σ) : ∃ r σ1 σ2, f_X8_restore σ = some (r, σ1) ∧ f_X9_restore σ1 = some (r, σ2) ∧ Inv σ2 := by
  obtain ⟨⟨n0, hy0⟩, hm, hs⟩ := h
  unfold f_X8_restore
  rcases hm with ⟨h1, h2⟩ | ⟨h1, h2, n, hy⟩
  · rw [if_pos h1]
    refine ⟨_, _, σ, rfl, ?_, ⟨n0, hy0⟩, Or.inl ⟨h1, h2⟩, hs⟩
    unfold f_X9_restore
    rw [if_pos h2]
  · have hn := hy.1
    obtain ⟨ρ, c1, c2, c3, c4, c5⟩ := become_c (i0 := 21) hy (Or.inl (by decide))
    rw [h1, if_neg (by decide), c1, ob_s, c3]
    refine ⟨_, ρ, cp52 ρ 64 62 52, rfl, ?_, ?_⟩
    · unfold f_X9_restore
      rw [c2 61 (by decide) (by decide), h2, if_neg (by decide), copies_eq (by decide), ob_s]
      have e : cp52 ρ 64 62 52 62 0 = nI n := by
        rw [cp52_j]
        show (if 0 < 52 then ρ 64 0 else _) = _
        rw [if_pos (by decide), c2 64 (by decide) (by decide)]
        exact hy.2.2.1
      rw [e]
    · have nz : ∀ i : Nat, i ≠ 62 → i ≠ 21 → (i < 24 ∨ 34 ≤ i) → cp52 ρ 64 62 52 i = σ i := fun i a b c => by rw [cp52_n a, c2 i b (by omega)]
      refine ⟨⟨n, ?_⟩, Or.inr ⟨?_, ?_, n, hy.congr (nz _ (by decide) (by decide) (by decide)) (nz _ (by decide) (by decide) (by decide)) (fun k hk => nz _ (by omega) (by omega) (by omega))⟩, fun d hd => ?_⟩
      · refine hy.become (i0 := 21) (r0 := 62) ?_ ?_ (fun k hk => ?_) (fun j hj => ?_)
        · rw [cp52_n (by decide), c3]
        · rw [cp52_n (by decide), c4]
        · have e1 : cp52 ρ 64 62 52 (21 + 1 + 2 + k) = ρ (21 + 1 + 2 + k) := cp52_n (by omega)
          exact ⟨(c5 k hk).1.congr e1, fun j hj => by rw [e1]; exact (c5 k hk).2 j hj⟩
        · rw [cp52_j]
          show (if j < 52 then ρ 64 j else _) = _
          rw [if_pos hj, c2 64 (by decide) (by decide)]
      · rw [nz 0 (by decide) (by decide) (by decide)]; exact h1
      · rw [nz 61 (by decide) (by decide) (by decide)]; exact h2
      · exact (hs d hd).congr (nz _ (by omega) (by omega) (by omega)) (nz _ (by omega) (by omega) (by omega)) (by rw [nz 69 (by decide) (by decide) (by decide)]) (by rw [nz 70 (by decide) (by decide) (by decide)]) (by rw [nz 71 (by decide) (by decide) (by decide)]) (by rw [nz 72 (by decide) (by decide) (by decide)]) (by rw [nz 73 (by decide) (by decide) (by decide)]) (fun j _ => by rw [nz 74 (by decide) (by decide) (by decide)])
