/-! PURE: done, sees, image, restore -/
theorem off_bit : ∀ s : Nat, s < 32 → ∀ w : Nat, w < 5 → ∃ u : Nat, u < 32 ∧ u.testBit w = false ∧ nI s &&& (((1 : Int32) <<< (nI w &&& 31)) ^^^ (-1 : Int32)) = nI u ∧ (s.testBit w = false → u = s) := by
  have h : ∀ s : Nat, s < 32 → ∀ w : Nat, w < 5 → ((nI s &&& (((1 : Int32) <<< (nI w &&& 31)) ^^^ (-1 : Int32))).toNatClampNeg < 32 ∧ (nI s &&& (((1 : Int32) <<< (nI w &&& 31)) ^^^ (-1 : Int32))).toNatClampNeg.testBit w = false ∧ nI s &&& (((1 : Int32) <<< (nI w &&& 31)) ^^^ (-1 : Int32)) = nI (nI s &&& (((1 : Int32) <<< (nI w &&& 31)) ^^^ (-1 : Int32))).toNatClampNeg ∧ (s.testBit w = false → (nI s &&& (((1 : Int32) <<< (nI w &&& 31)) ^^^ (-1 : Int32))).toNatClampNeg = s)) := by decide +kernel
  exact fun s hs w hw => ⟨_, h s hs w hw⟩
theorem add_c {σ : St} {y n a b d w s : Nat} (h : σ y 2 = nI n) (hn : n < 10) (ha : a < 8) (hb : b < 10) (hd : d < 365) (hw : w < 5) (hs : s < 32) : ∃ ρ, f_X7_add y (nI a) (nI b) (nI d) (nI w) (nI s) σ = some (true, ρ) ∧ DOk ρ (y + 1 + 2 + n) ∧ ρ y 2 = nI (n + 1) ∧ (∀ j : Nat, j ≠ 2 → ρ y j = σ y j) ∧ (∀ i : Nat, i ≠ y → i ≠ y + 1 + 2 + n → ρ i = σ i) ∧ ρ (y + 1 + 2 + n) 0 = nI a ∧ ρ (y + 1 + 2 + n) 1 = nI b ∧ ρ (y + 1 + 2 + n) 2 = nI d ∧ ρ (y + 1 + 2 + n) 3 = nI w ∧ ρ (y + 1 + 2 + n) 4 = nI s &&& (((1 : Int32) <<< (nI w &&& 31)) ^^^ (-1 : Int32)) := by
  have hne : y + 1 + 2 + n ≠ y := by omega
  have hne2 : y ≠ y + 1 + 2 + n := by omega
  generalize hc : y + 1 + 2 + n = c at hne hne2
  obtain ⟨u, hu1, hu2, hu3, -⟩ := off_bit s hs w hw
  have eb : f_X1_become c (nI a) (nI b) (nI d) (nI w) (nI s) σ = some (up (up (up (up (up (up (up σ c 0 (nI a)) c 1 (nI b)) c 2 (nI d)) c 3 (nI w)) c 4 (nI s &&& (((1 : Int32) <<< (nI w &&& 31)) ^^^ (-1 : Int32)))) c 5 (f_X4_lasting (nI a) (nI b))) c 6 (f_X4_lastingOwn (nI a) ((up (up (up (up (up (up σ c 0 (nI a)) c 1 (nI b)) c 2 (nI d)) c 3 (nI w)) c 4 (nI s &&& (((1 : Int32) <<< (nI w &&& 31)) ^^^ (-1 : Int32)))) c 5 (f_X4_lasting (nI a) (nI b))) c 5))) := rfl
  have e5 : (up (up (up (up (up (up σ c 0 (nI a)) c 1 (nI b)) c 2 (nI d)) c 3 (nI w)) c 4 (nI s &&& (((1 : Int32) <<< (nI w &&& 31)) ^^^ (-1 : Int32)))) c 5 (f_X4_lasting (nI a) (nI b))) c 5 = f_X4_lasting (nI a) (nI b) := by rw [up_s, pk_us]
  rw [e5] at eb
  have hadd : f_X7_add y (nI a) (nI b) (nI d) (nI w) (nI s) σ = some (true, up (up (up (up (up (up (up (up σ c 0 (nI a)) c 1 (nI b)) c 2 (nI d)) c 3 (nI w)) c 4 (nI s &&& (((1 : Int32) <<< (nI w &&& 31)) ^^^ (-1 : Int32)))) c 5 (f_X4_lasting (nI a) (nI b))) c 6 (f_X4_lastingOwn (nI a) (f_X4_lasting (nI a) (nI b)))) y 2 (nI (n + 1))) := by
    unfold f_X7_add
    rw [h, if_pos (lt10 hn), if_pos (inb_nI hn (by decide)), nI_clamp (n := n) (by omega), hc, eb, ob_s]
    rw [show (up (up (up (up (up (up (up σ c 0 (nI a)) c 1 (nI b)) c 2 (nI d)) c 3 (nI w)) c 4 (nI s &&& (((1 : Int32) <<< (nI w &&& 31)) ^^^ (-1 : Int32)))) c 5 (f_X4_lasting (nI a) (nI b))) c 6 (f_X4_lastingOwn (nI a) (f_X4_lasting (nI a) (nI b)))) y 2 = nI n by rw [up_n hne2, up_n hne2, up_n hne2, up_n hne2, up_n hne2, up_n hne2, up_n hne2, h], nI_1]
  refine ⟨_, hadd, ⟨a, b, d, w, u, ha, hb, hd, hw, hu1, hu2, ?_, ?_, ?_, ?_, ?_, ?_, ?_⟩, ?_, fun j hj => ?_, fun i h1 h2 => ?_, ?_, ?_, ?_, ?_, ?_⟩
  · rw [up_n hne, up_s, pk_un (by decide), up_s, pk_un (by decide), up_s, pk_un (by decide), up_s, pk_un (by decide), up_s, pk_un (by decide), up_s, pk_un (by decide), up_s, pk_us]
  · rw [up_n hne, up_s, pk_un (by decide), up_s, pk_un (by decide), up_s, pk_un (by decide), up_s, pk_un (by decide), up_s, pk_un (by decide), up_s, pk_us]
  · rw [up_n hne, up_s, pk_un (by decide), up_s, pk_un (by decide), up_s, pk_un (by decide), up_s, pk_un (by decide), up_s, pk_us]
  · rw [up_n hne, up_s, pk_un (by decide), up_s, pk_un (by decide), up_s, pk_un (by decide), up_s, pk_us]
  · rw [up_n hne, up_s, pk_un (by decide), up_s, pk_un (by decide), up_s, pk_us, hu3]
  · rw [up_n hne, up_s, pk_un (by decide), up_s, pk_us]
  · rw [up_n hne, up_s, pk_us]
  · rw [up_s, pk_us]
  · rw [up_s, pk_un hj, up_n hne2, up_n hne2, up_n hne2, up_n hne2, up_n hne2, up_n hne2, up_n hne2]
  · rw [up_n h1, up_n h2, up_n h2, up_n h2, up_n h2, up_n h2, up_n h2, up_n h2]
  · rw [up_n hne, up_s, pk_un (by decide), up_s, pk_un (by decide), up_s, pk_un (by decide), up_s, pk_un (by decide), up_s, pk_un (by decide), up_s, pk_un (by decide), up_s, pk_us]
  · rw [up_n hne, up_s, pk_un (by decide), up_s, pk_un (by decide), up_s, pk_un (by decide), up_s, pk_un (by decide), up_s, pk_un (by decide), up_s, pk_us]
  · rw [up_n hne, up_s, pk_un (by decide), up_s, pk_un (by decide), up_s, pk_un (by decide), up_s, pk_un (by decide), up_s, pk_us]
  · rw [up_n hne, up_s, pk_un (by decide), up_s, pk_un (by decide), up_s, pk_un (by decide), up_s, pk_us]
  · rw [up_n hne, up_s, pk_un (by decide), up_s, pk_un (by decide), up_s, pk_us]
theorem adds_r {σ : St} {r n : Nat} (a b d w s : Int32) (h : σ r 0 = nI n) (hn : n < 10) : ∃ ρ, f_X9_adds r a b d w s σ = some ρ ∧ (∀ i : Nat, i ≠ r → ρ i = σ i) ∧ ρ r 0 = nI (n + 1) ∧ (∀ j : Nat, j ≠ 0 → j < 2 + 5 * n → ρ r j = σ r j) ∧ ρ r (2 + 5 * n + 0) = a ∧ ρ r (2 + 5 * n + 1) = b ∧ ρ r (2 + 5 * n + 2) = d ∧ ρ r (2 + 5 * n + 3) = w ∧ ρ r (2 + 5 * n + 4) = s &&& (((1 : Int32) <<< (w &&& 31)) ^^^ (-1 : Int32)) := by
  unfold f_X9_adds
  rw [h, if_pos (ofi0 hn), if_pos (ofi1 hn), if_pos (ofi2 hn), if_pos (ofi3 hn), if_pos (ofi4 hn), ofc0 hn, ofc1 hn, ofc2 hn, ofc3 hn, ofc4 hn]
  refine ⟨_, rfl, fun i hi => ?_, ?_, fun j h0 hj => ?_, ?_, ?_, ?_, ?_, ?_⟩
  · rw [up_n hi, up_n hi, up_n hi, up_n hi, up_n hi, up_n hi]
  · rw [up_s, pk_us, up_s, pk_un (by omega), up_s, pk_un (by omega), up_s, pk_un (by omega), up_s, pk_un (by omega), up_s, pk_un (by omega), h, nI_1]
  · rw [up_s, pk_un h0, up_s, pk_un (by omega), up_s, pk_un (by omega), up_s, pk_un (by omega), up_s, pk_un (by omega), up_s, pk_un (by omega)]
  · rw [up_s, pk_un (by omega), up_s, pk_un (by omega), up_s, pk_un (by omega), up_s, pk_un (by omega), up_s, pk_un (by omega), up_s, pk_us]
  · rw [up_s, pk_un (by omega), up_s, pk_un (by omega), up_s, pk_un (by omega), up_s, pk_un (by omega), up_s, pk_us]
  · rw [up_s, pk_un (by omega), up_s, pk_un (by omega), up_s, pk_un (by omega), up_s, pk_us]
  · rw [up_s, pk_un (by omega), up_s, pk_un (by omega), up_s, pk_us]
  · rw [up_s, pk_un (by omega), up_s, pk_us]
/-- a deed more, on both sides -/
theorem more {σ : St} {y r n a b d w s : Nat} (hy : YR σ y r n) (hn : n < 10) (hr : r < y ∨ y + 13 ≤ r) (ha : a < 8) (hb : b < 10) (hd : d < 365) (hw : w < 5) (hs : s < 32) : ∃ ρ1 ρ2, f_X7_add y (nI a) (nI b) (nI d) (nI w) (nI s) σ = some (true, ρ1) ∧ (∀ τ : St, τ r = ρ1 r → f_X9_adds r (nI a) (nI b) (nI d) (nI w) (nI s) τ = some (upc τ r (ρ2 r))) ∧ YR ρ2 y r (n + 1) ∧ ρ1 y 2 = nI (n + 1) ∧ ρ2 r 0 = nI (n + 1) ∧ (∀ i : Nat, i ≠ y → i ≠ y + 1 + 2 + n → ρ1 i = σ i) ∧ ρ2 = upc ρ1 r (ρ2 r) := by
  obtain ⟨h1, h2, h3, h4, h5, h6, h7⟩ := hy
  obtain ⟨ρ1, c1, c2, c3, c4, c5, c6, c7, c8, c9, c10⟩ := add_c h2 hn ha hb hd hw hs
  have e1 : ρ1 r = σ r := c5 r (by omega) (by omega)
  obtain ⟨ρ2, r1, r2, r3, r4, r5, r6, r7, r8, r9⟩ := adds_r (σ := ρ1) (r := r) (nI a) (nI b) (nI d) (nI w) (nI s) (by rw [e1]; exact h3) hn
  have e2 : ρ2 = upc ρ1 r (ρ2 r) := by
    funext i
    by_cases hi : i = r
    · subst hi; rw [upc_s]
    · rw [upc_n hi, r2 i hi]
  refine ⟨ρ1, ρ2, c1, fun τ hτ => ?_, ⟨by omega, ?_, r3, ?_, ?_, fun k hk => ?_, fun k hk => ?_⟩, c3, r3, c5, e2⟩
  · obtain ⟨ρ3, q1, q2, -⟩ := adds_r (σ := τ) (r := r) (nI a) (nI b) (nI d) (nI w) (nI s) (by rw [hτ, e1]; exact h3) hn
    rw [q1]
    refine congrArg some ?_
    have es : ρ3 r = ρ2 r := by
      have q1' := q1
      have r1' := r1
      unfold f_X9_adds at q1' r1'
      have h3' : ρ1 r 0 = nI n := by rw [e1]; exact h3
      rw [hτ, h3', if_pos (ofi0 hn), if_pos (ofi1 hn), if_pos (ofi2 hn), if_pos (ofi3 hn), if_pos (ofi4 hn)] at q1'
      rw [h3', if_pos (ofi0 hn), if_pos (ofi1 hn), if_pos (ofi2 hn), if_pos (ofi3 hn), if_pos (ofi4 hn)] at r1'
      rw [← Option.some.inj q1', ← Option.some.inj r1']
      rw [up_s, up_s, up_s, up_s, up_s, up_s, hτ, up_s, up_s, up_s, up_s, up_s, up_s]
    funext i
    by_cases hi : i = r
    · subst hi; rw [upc_s, es]
    · rw [upc_n hi, q2 i hi]
  · rw [r2 y (by omega)]; exact c3
  · rw [r2 y (by omega), c4 3 (by decide)]; exact h4
  · rw [r2 y (by omega), c4 3 (by decide), r4 1 (by decide) (by omega), e1]; exact h5
  · by_cases hkn : k = n
    · subst hkn; exact c2.congr (r2 _ (by omega))
    · exact (h6 k (by omega)).congr ((r2 _ (by omega)).trans (c5 _ (by omega) (by omega)))
  · by_cases hkn : k = n
    · subst hkn
      unfold DRel
      rw [r2 (y + 1 + 2 + k) (by omega), c6, c7, c8, c9, c10]
      exact ⟨r5, r6, r7, r8, r9⟩
    · have q := h7 k (by omega)
      unfold DRel at q ⊢
      rw [r2 (y + 1 + 2 + k) (by omega), c5 (y + 1 + 2 + k) (by omega) (by omega), r4 _ (by omega) (by omega), r4 _ (by omega) (by omega), r4 _ (by omega) (by omega), r4 _ (by omega) (by omega), r4 _ (by omega) (by omega), e1]
      exact q
theorem upc_2 {σ : St} {i : Nat} {f g : Nat → Int32} : upc (upc σ i f) i g = upc σ i g := by
  funext b
  by_cases h : b = i
  · subst h; rw [upc_s, upc_s]
  · rw [upc_n h, upc_n h, upc_n h]
/-- a deed more keeps all else -/
theorem Inv.more {σ τ : St} {m : Nat} (h : Inv σ) (h1 : YR τ 21 62 m) (h2 : ∀ i : Nat, i ≠ 21 → (i < 24 ∨ 34 ≤ i) → i ≠ 62 → τ i = σ i) : Inv τ := by
  obtain ⟨-, hm, hs⟩ := h
  refine ⟨⟨m, h1⟩, ?_, fun d hd => (hs d hd).congr (h2 _ (by omega) (by omega) (by omega)) (h2 _ (by omega) (by omega) (by omega)) (by rw [h2 69 (by omega) (by omega) (by omega)]) (by rw [h2 70 (by omega) (by omega) (by omega)]) (by rw [h2 71 (by omega) (by omega) (by omega)]) (by rw [h2 72 (by omega) (by omega) (by omega)]) (by rw [h2 73 (by omega) (by omega) (by omega)]) (fun j _ => by rw [h2 74 (by omega) (by omega) (by omega)])⟩
  rw [h2 0 (by omega) (by omega) (by omega), h2 61 (by omega) (by omega) (by omega)]
  rcases hm with hm | ⟨a, b, k, c⟩
  · exact Or.inl hm
  · exact Or.inr ⟨a, b, k, c.congr (h2 _ (by omega) (by omega) (by omega)) (h2 _ (by omega) (by omega) (by omega)) (fun k hk => h2 _ (by omega) (by omega) (by omega))⟩
theorem p_done {σ : St} (h : Inv σ) (x d w s : Int32) : ∃ r σ1 σ2, f_X8_done x d w s σ = some (r, σ1) ∧ f_X9_done x d w s σ1 = some (r, σ2) ∧ Inv σ2 := by
  obtain ⟨n, hy⟩ := h.1
  have hn := hy.1
  unfold f_X8_done
  by_cases h1 : isN d 365
  · rw [yes_if within364 h1]
    by_cases h2 : isN w 5
    · rw [yes_if below5 h2]
      by_cases h3 : isN s 32
      · rw [yes_if within31 h3]
        by_cases hx : isN x 8
        · obtain ⟨e, he, rfl⟩ := hx
          rw [shelfAt_y he]
          show ∃ r σ1 σ2, (if f_X8_kindRefusal (some (2 + 2 * e)) σ = 0 then _ else _) = some (r, σ1) ∧ _
          rcases kind_two he (h.2.2 e he) with ⟨c, hc, e1, e2⟩ | ⟨⟨a, b, ha, hb, g1, g2, g3, g4, g5, g6⟩, e1, e2⟩
          · rw [e1, if_neg hc]
            refine ⟨_, _, σ, rfl, ?_, h⟩
            unfold f_X9_done
            rw [yes_if day_iff h1, yes_if person_iff h2, yes_if isin31 h3, e2, ob_s, if_neg hc]
          · rw [e1, if_pos rfl, g2, g3]
            by_cases hn10 : n = 10
            · have ea : f_X7_add 21 (nI a) (nI b) d w s σ = some (false, σ) := by
                unfold f_X7_add
                rw [hy.2.1, hn10, if_neg (show ¬ nI 10 < (10 : Int32) by decide)]
              rw [ea]
              refine ⟨-2, σ, σ, rfl, ?_, h⟩
              unfold f_X9_done
              rw [yes_if day_iff h1, yes_if person_iff h2, yes_if isin31 h3, e2, ob_s, if_pos rfl, hy.2.2.1, hn10, if_pos (show nI 10 = (10 : Int32) from rfl)]
            · obtain ⟨d, hd, rfl⟩ := id h1
              obtain ⟨w, hw, rfl⟩ := id h2
              obtain ⟨s, hs, rfl⟩ := id h3
              have b8 : inb (nI e) 8 := inb_nI he (by decide)
              obtain ⟨ρ1, ρ2, c1, c2, c3, c4, c5, c6, c7⟩ := more hy (by omega) (Or.inr (by decide)) ha hb hd hw hs
              rw [c1, ob_s, if_pos rfl]
              show ∃ r σ1 σ2, some (ρ1 21 2 - 1, ρ1) = some (r, σ1) ∧ _
              rw [c4]
              refine ⟨_, ρ1, ρ2, rfl, ?_, h.more c3 (fun i a1 a2 a3 => by rw [c7, upc_n a3, c6 i a1 (by omega)])⟩
              have k69 : ρ1 69 = σ 69 := c6 69 (by omega) (by omega)
              have ew : f_X9_wrongKept (nI e) ρ1 = some 0 := by
                rw [← e2]
                unfold f_X9_wrongKept
                rw [k69]
              unfold f_X9_done
              rw [yes_if day_iff h1, yes_if person_iff h2, yes_if isin31 h3, ew, ob_s, if_pos rfl, c6 62 (by omega) (by omega), hy.2.2.1, if_neg (show ¬ nI n = (10 : Int32) from fun q => hn10 ((nI_eq (b := 10) (by omega) (by decide)).mp q)), if_pos b8, if_pos b8, c6 70 (by omega) (by omega), c6 71 (by omega) (by omega), atd (σ := σ) 70 he, atd (σ := σ) 71 he, g5, g6, c2 ρ1 rfl, ob_s, ← c7, c5]
        · obtain ⟨e1, -, -, e3, e4⟩ := row_no (w := -1) (σ := σ) hx
          rw [e1]
          refine ⟨-1, σ, σ, rfl, ?_, h⟩
          unfold f_X9_done
          rw [yes_if day_iff h1, yes_if person_iff h2, yes_if isin31 h3, e3]
          rfl
      · rw [no_if within31 h3]
        refine ⟨_, _, σ, rfl, ?_, h⟩
        unfold f_X9_done
        rw [yes_if day_iff h1, yes_if person_iff h2, no_if isin31 h3]
    · rw [no_if below5 h2]
      refine ⟨_, _, σ, rfl, ?_, h⟩
      unfold f_X9_done
      rw [yes_if day_iff h1, no_if person_iff h2]
  · rw [no_if within364 h1]
    refine ⟨_, _, σ, rfl, ?_, h⟩
    unfold f_X9_done
    rw [no_if day_iff h1]
theorem turn_bit : ∀ s : Nat, s < 32 → ∀ w : Nat, w < 5 → ∀ p : Nat, p < 5 → ¬ w = p → s.testBit w = false → ∃ u : Nat, u < 32 ∧ u.testBit w = false ∧ nI s ^^^ ((1 : Int32) <<< (nI p &&& 31)) = nI u := by
  have h : ∀ s : Nat, s < 32 → ∀ w : Nat, w < 5 → ∀ p : Nat, p < 5 → (w = p ∨ s.testBit w = true) ∨ ((nI s ^^^ ((1 : Int32) <<< (nI p &&& 31))).toNatClampNeg < 32 ∧ (nI s ^^^ ((1 : Int32) <<< (nI p &&& 31))).toNatClampNeg.testBit w = false ∧ nI s ^^^ ((1 : Int32) <<< (nI p &&& 31)) = nI (nI s ^^^ ((1 : Int32) <<< (nI p &&& 31))).toNatClampNeg) := by decide +kernel
  intro s hs w hw p hp h1 h2
  rcases h s hs w hw p hp with (a | a) | a
  · exact absurd a h1
  · rw [h2] at a; exact absurd a (by decide)
  · exact ⟨_, a⟩
theorem p_sees {σ : St} (h : Inv σ) (x p : Int32) : ∃ r σ1 σ2, f_X8_sees x p σ = some (r, σ1) ∧ f_X9_sees x p σ1 = some (r, σ2) ∧ Inv σ2 := by
  obtain ⟨n, hy⟩ := h.1
  have hn := hy.1
  unfold f_X8_sees
  rcases deed_two hy x with ⟨k, hk, rfl, e1, e2⟩ | ⟨hx, e1, e2⟩
  · rw [e1]
    have hk10 : k < 10 := by omega
    show ∃ r σ1 σ2, (if f_X8_isBelow p 5 = true then _ else _) = some (r, σ1) ∧ _
    by_cases hp : isN p 5
    · rw [yes_if below5 hp]
      by_cases hw : σ (24 + k) 3 = p
      · rw [if_pos hw]
        refine ⟨_, _, σ, rfl, ?_, h⟩
        unfold f_X9_sees
        rw [e2, ob_s, if_pos rfl, yes_if person_iff hp, if_pos (ofi3 hk10), ofc3 hk10, (hy.d hk).2.2.2.2.1, if_pos hw]
      · rw [if_neg hw]
        have et : f_X1_turnSeen (24 + k) p σ = some (up σ (24 + k) 4 (σ (24 + k) 4 ^^^ ((1 : Int32) <<< (p &&& 31)))) := rfl
        rw [et, ob_s, up_s, pk_us]
        generalize hv : σ (24 + k) 4 ^^^ ((1 : Int32) <<< (p &&& 31)) = v
        have k62 : up σ (24 + k) 4 v 62 = σ 62 := up_n (by omega)
        refine ⟨_, _, up (up σ (24 + k) 4 v) 62 (2 + 5 * k + 4) v, rfl, ?_, ?_⟩
        · have e2' : f_X9_isDeed (nI k) (up σ (24 + k) 4 v) = some true := by
            obtain ⟨b, hb, hi⟩ := deed_iff (x := nI k) (σ := up σ (24 + k) 4 v) hn (by rw [k62]; exact hy.2.2.1)
            rw [hi.mpr ⟨k, hk, rfl⟩] at hb
            exact hb
          unfold f_X9_sees
          rw [e2', ob_s, if_pos rfl, yes_if person_iff hp, if_pos (ofi3 hk10), ofc3 hk10, k62, (hy.d hk).2.2.2.2.1, if_neg hw, if_pos (ofi4 hk10), if_pos (ofi4 hk10), if_pos (ofi4 hk10), ofc4 hk10, (hy.d hk).2.2.2.2.2, hv, up_s, pk_us]
        · obtain ⟨h1, h2, h3, h4, h5, h6, h7⟩ := hy
          have nn : ∀ i : Nat, i ≠ 24 + k → i ≠ 62 → up (up σ (24 + k) 4 v) 62 (2 + 5 * k + 4) v i = σ i := fun i a b => by rw [up_n b, up_n a]
          have n62 : up (up σ (24 + k) 4 v) 62 (2 + 5 * k + 4) v 62 = upd (σ 62) (2 + 5 * k + 4) v := by rw [up_s, k62]
          have nk : up (up σ (24 + k) 4 v) 62 (2 + 5 * k + 4) v (24 + k) = upd (σ (24 + k)) 4 v := by rw [up_n (by omega), up_s]
          refine h.more (m := n) ⟨h1, by rw [nn 21 (by omega) (by omega)]; exact h2, by rw [n62, pk_un (by omega)]; exact h3, by rw [nn 21 (by omega) (by omega)]; exact h4, by rw [n62, pk_un (by omega), nn 21 (by omega) (by omega)]; exact h5, fun j hj => ?_, fun j hj => ?_⟩ (fun i a1 a2 a3 => nn i (by omega) a3)
          · by_cases hjk : j = k
            · subst hjk
              obtain ⟨a, b, d, w, s, ha, hb, hd, hw5, hs, ht, g0, g1, g2, g3, g4, g5, g6⟩ := h6 j hj
              obtain ⟨q, hq, rfl⟩ := hp
              have g3' : σ (24 + j) 3 = nI w := g3
              have g4' : σ (24 + j) 4 = nI s := g4
              rw [g3'] at hw
              rw [g4'] at hv
              obtain ⟨u, hu1, hu2, hu3⟩ := turn_bit s hs w hw5 q hq (fun z => hw (by rw [z])) ht
              unfold DOk
              rw [show 21 + 1 + 2 + j = 24 + j by omega, nk]
              exact ⟨a, b, d, w, u, ha, hb, hd, hw5, hu1, hu2, g0, g1, g2, g3, by rw [pk_us, ← hv, hu3], g5, g6⟩
            · exact (h6 j hj).congr (nn _ (by omega) (by omega))
          · have q := h7 j hj
            by_cases hjk : j = k
            · subst hjk
              unfold DRel at q ⊢
              have f0 : ∀ i : Nat, i < 4 → upd (σ 62) (2 + 5 * j + 4) v (2 + 5 * j + i) = σ 62 (2 + 5 * j + i) := fun i hi => pk_un (by omega)
              have g0 : ∀ i : Nat, i < 4 → upd (σ (24 + j)) 4 v i = σ (24 + j) i := fun i hi => pk_un (by omega)
              have e24 : σ (21 + 1 + 2 + j) = σ (24 + j) := by rw [show 21 + 1 + 2 + j = 24 + j by omega]
              rw [e24] at q
              rw [show 21 + 1 + 2 + j = 24 + j by omega, nk, n62, f0 0 (by decide), f0 1 (by decide), f0 2 (by decide), f0 3 (by decide), g0 0 (by decide), g0 1 (by decide), g0 2 (by decide), g0 3 (by decide), pk_us, pk_us]
              exact ⟨q.1, q.2.1, q.2.2.1, q.2.2.2.1, rfl⟩
            · unfold DRel at q ⊢
              rw [nn (21 + 1 + 2 + j) (by omega) (by omega), n62, pk_un (by omega), pk_un (by omega), pk_un (by omega), pk_un (by omega), pk_un (by omega)]
              exact q
    · rw [no_if below5 hp]
      refine ⟨_, _, σ, rfl, ?_, h⟩
      unfold f_X9_sees
      rw [e2, ob_s, if_pos rfl, no_if person_iff hp]
  · rw [e1]
    refine ⟨-1, σ, σ, rfl, ?_, h⟩
    unfold f_X9_sees
    rw [e2]
    rfl
