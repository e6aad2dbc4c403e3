/-! PURE: year -/
def YC (σ : St) (y n : Nat) : Prop := n ≤ 10 ∧ σ y 2 = nI n ∧ ∀ k : Nat, k < n → DOk σ (y + 1 + 2 + k)
theorem become_2 {σ : St} {i0 i1 n : Nat} (hy : YC σ i1 n) (hd : i0 + 13 ≤ i1 ∨ i1 + 13 ≤ i0) : ∃ ρ, f_X7_become i0 i1 σ = some ρ ∧ (∀ i : Nat, i ≠ i0 → (i < i0 + 3 ∨ i0 + 13 ≤ i) → ρ i = σ i) ∧ ρ i0 2 = nI n ∧ ρ i0 3 = σ i1 3 ∧ ∀ k : Nat, k < n → DOk ρ (i0 + 1 + 2 + k) ∧ ∀ j : Nat, j < 5 → ρ (i0 + 1 + 2 + k) j = σ (i1 + 1 + 2 + k) j := by
  have hn := hy.1
  refine loop_j (fun f τ k => f_X7_become_7 i0 i1 f (nI k) τ) (fun k τ => (∀ i : Nat, i ≠ i0 → (i < i0 + 3 ∨ i0 + 13 ≤ i) → τ i = σ i) ∧ τ i0 2 = nI k ∧ ∀ e : Nat, e < k → DOk τ (i0 + 1 + 2 + e) ∧ ∀ j : Nat, j < 5 → τ (i0 + 1 + 2 + e) j = σ (i1 + 1 + 2 + e) j) (fun b => ∃ ρ, b = some ρ ∧ (∀ i : Nat, i ≠ i0 → (i < i0 + 3 ∨ i0 + 13 ≤ i) → ρ i = σ i) ∧ ρ i0 2 = nI n ∧ ρ i0 3 = σ i1 3 ∧ ∀ k : Nat, k < n → DOk ρ (i0 + 1 + 2 + k) ∧ ∀ j : Nat, j < 5 → ρ (i0 + 1 + 2 + k) j = σ (i1 + 1 + 2 + k) j) n ?_ ?_ fu (up σ i0 2 0) ⟨fun i h1 h2 => up_n h1, by rw [up_s, pk_us]; rfl, fun e he => absurd he (Nat.not_lt_zero e)⟩ (fu_gt (by omega))
  · intro f k τ hk ⟨q1, q2, q3⟩
    have ek : τ (i1 + 1 + 2 + k) = σ (i1 + 1 + 2 + k) := q1 _ (by omega) (by omega)
    obtain ⟨a, b, d, w, s, ha, hb, hd', hw, hs, ht, g0, g1, g2, g3, g4, -⟩ := hy.2.2 k hk
    obtain ⟨ρ, c1, c2, c3, c4, c5, c6, c7, c8, c9, c10⟩ := add_c (σ := τ) (y := i0) q2 (by omega) ha hb hd' hw hs
    obtain ⟨u, hu1, hu2, hu3, hu4⟩ := off_bit s hs w hw
    rw [hu3, hu4 ht] at c10
    have hck : (nI k).toNatClampNeg = k := nI_clamp (by omega)
    have hb10 : inb (nI k) 10 := inb_nI (by omega) (by decide)
    show ∃ a', _ ∧ f_X7_become_7 i0 i1 (f + 1) (nI k) τ = f_X7_become_7 i0 i1 f (nI (k + 1)) a'
    have h1n : τ i1 2 = nI n := by rw [q1 i1 (by omega) (by omega)]; exact hy.2.1
    rw [f_X7_become_7_s, deedAt_y hn h1n hk, h1n, if_neg (nI_ge hk (by omega)), ob_s, oc_ss, ek, g0, g1, g2, g3, g4, c1, ob_s, f_X7_become_50_e, nI_1]
    refine ⟨ρ, ⟨fun i h1 h2 => by rw [c5 i h1 (by omega), q1 i h1 h2], c3, fun e he => ?_⟩, rfl⟩
    by_cases hek : e = k
    · subst hek
      refine ⟨c2, fun j hj => ?_⟩
      have : j = 0 ∨ j = 1 ∨ j = 2 ∨ j = 3 ∨ j = 4 := by omega
      rcases this with rfl | rfl | rfl | rfl | rfl
      · rw [c6, g0]
      · rw [c7, g1]
      · rw [c8, g2]
      · rw [c9, g3]
      · rw [c10, g4]
    · have e1 : ρ (i0 + 1 + 2 + e) = τ (i0 + 1 + 2 + e) := c5 _ (by omega) (by omega)
      exact ⟨(q3 e (by omega)).1.congr e1, fun j hj => by rw [e1, (q3 e (by omega)).2 j hj]⟩
  · intro f τ ⟨q1, q2, q3⟩
    show ∃ ρ, f_X7_become_7 i0 i1 (f + 1) (nI n) τ = some ρ ∧ _
    rw [f_X7_become_7_s, q1 i1 (by omega) (by omega), hy.2.1, if_pos (nI_le (Nat.le_refl n) (by omega))]
    refine ⟨_, rfl, fun i h1 h2 => by rw [up_n h1, q1 i h1 h2], by rw [up_s, pk_un (by decide), q2], by rw [up_s, pk_us], fun k hk => ?_⟩
    have e1 : up τ i0 3 (σ i1 3) (i0 + 1 + 2 + k) = τ (i0 + 1 + 2 + k) := up_n (by omega)
    exact ⟨(q3 k hk).1.congr e1, fun j hj => by rw [e1, (q3 k hk).2 j hj]⟩
theorem wrong_0 {σ : St} {d s n : Nat} (hd : d < 8) (h : SR2 σ d s n) : f_X9_wrongRow (nI d) 0 σ = some (if nI s = 0 then 0 else -12) := by
  have hb : inb (nI d) 8 := inb_nI hd (by decide)
  obtain ⟨-, -, -, -, -, h3, h4, -⟩ := h
  unfold f_X9_wrongRow f_X9_wrongRow_49
  rw [if_pos (shelf_y hd), if_pos hb, atd (σ := σ) 69 hd, h3, if_neg (by decide), if_pos hb, if_pos rfl, if_neg (show ¬ (0 : Int32) < 0 by decide), if_pos hb, atd (σ := σ) 72 hd, h4]
  by_cases hz : nI s = 0
  · rw [if_pos hz, if_pos hz]
  · rw [if_neg hz, if_neg hz]
theorem Inv.mk2 {σ τ : St} {m : Nat} (h : Inv σ) (h1 : YR τ 21 62 m) (h2 : ∀ i : Nat, (i = 47 ∨ (50 ≤ i ∧ i < 60) ∨ i = 64 ∨ (2 ≤ i ∧ i < 18) ∨ (69 ≤ i ∧ i ≤ 74)) → τ i = σ i) (h3 : τ 0 5 = σ 0 5) (h4 : τ 61 4 = σ 61 4) : Inv τ := by
  obtain ⟨-, hm, hs⟩ := h
  refine ⟨⟨m, h1⟩, ?_, fun d hd => (hs d hd).congr (h2 _ (by omega)) (h2 _ (by omega)) (by rw [h2 69 (by omega)]) (by rw [h2 70 (by omega)]) (by rw [h2 71 (by omega)]) (by rw [h2 72 (by omega)]) (by rw [h2 73 (by omega)]) (fun j _ => by rw [h2 74 (by omega)])⟩
  rw [h3, h4]
  rcases hm with hm | ⟨a, b, k, c⟩
  · exact Or.inl hm
  · exact Or.inr ⟨a, b, k, c.congr (h2 _ (by omega)) (h2 _ (by omega)) (fun k hk => h2 _ (by omega))⟩
/-- the reference's start on the text -/
theorem start_r {σ : St} {d N : Nat} {x : Int32} (hd : d < 8) (q : SR2 σ d 0 N) : ∃ τ, f_X9_year (nI d) σ = f_X9_year_41 (nI d) fu 0 0 τ ∧ Tr τ d (σ (3 + 2 * d)) N ∧ τ 61 9 = nI 0 ∧ (∀ i : Nat, i ≠ 61 → τ i = σ i) ∧ τ 61 4 = σ 61 4 := by
  have hb : inb (nI d) 8 := inb_nI hd (by decide)
  unfold f_X9_year
  rw [wrong_0 hd q, if_pos (show nI 0 = 0 from rfl), ob_s, if_pos rfl, if_pos hb]
  refine ⟨_, rfl, ⟨hd, q.2.1, ?_, ?_, fun j hj => ?_, q.2.2.2.2.2.2.2.2.2 rfl⟩, ?_, fun i hi => ?_, ?_⟩
  · rw [up_s, pk_un (by decide), up_s, pk_un (by decide), up_s, pk_us, show (100 : Int32) = nI 100 from rfl, pk_mul]
  · rw [up_s, pk_un (by decide), up_s, pk_us, up_n (by decide), atd (σ := σ) 73 hd, q.sz.2.1]
  · rw [up_n (by decide), up_n (by decide), up_n (by decide), q.el hj]
  · rw [up_s, pk_us]
    rfl
  · rw [up_n hi, up_n hi, up_n hi]
  · rw [up_s, pk_un (by decide), up_s, pk_un (by decide), up_s, pk_un (by decide)]
theorem m12 : ¬ (-12 : Int32) = 0 := by decide
theorem neg1 : (-1 : Int32) < 0 := by decide
theorem year_no {σ : St} (h : Inv σ) {x : Int32} {d : Nat} (hx : x = nI d) (hd : d < 8) {c : Int32} (hc : ¬ c = 0) (e1 : f_X8_rowRefusal (some (2 + 2 * d)) σ = c) (e2 : f_X9_wrongRow x 0 σ = some c) : ∃ r σ1 σ2, f_X8_year x σ = some (r, σ1) ∧ f_X9_year x σ1 = some (r, σ2) ∧ Inv σ2 := by
  subst hx
  refine ⟨c, σ, σ, ?_, ?_, h⟩
  · unfold f_X8_year
    rw [shelfAt_y hd]
    show (if f_X8_rowRefusal (some (2 + 2 * d)) σ = 0 then _ else _) = _
    rw [e1, if_neg hc]
  · unfold f_X9_year
    rw [e2, ob_s, if_neg hc]
theorem p_year {σ : St} (h : Inv σ) (x : Int32) : ∃ r σ1 σ2, f_X8_year x σ = some (r, σ1) ∧ f_X9_year x σ1 = some (r, σ2) ∧ Inv σ2 := by
  obtain ⟨n, hy⟩ := id h.1
  have hn := hy.1
  by_cases hx : isN x 8
  · obtain ⟨d, hd, rfl⟩ := hx
    rcases row_two hd (h.2.2 d hd) with ⟨e1, e2⟩ | ⟨e1, e2⟩ | ⟨s, N, q, e1, -, -⟩
    · exact year_no h rfl hd (by decide) e1 (e2 0)
    · exact year_no h rfl hd (by decide) e1 (e2 0)
    · by_cases hs : s = 0
      · subst hs
        have cls : f_X8_year (nI d) σ = (ob (f_X6_firstBadByte (2 + 2 * d) σ) (fun q6 => if q6 < 0 then (ob (f_X7_become 34 21 σ) (fun q9 => ob (f_X6_firstWrongStatement (2 + 2 * d) 34 q9) (fun q11 => if q11.1 < 0 then (ob (f_X7_become 21 34 q11.2) (fun q14 => ob (f_X6_statements (2 + 2 * d) q14) (fun q16 => some (q16, q14)))) else (some ((-2000 : Int32) - q11.1, q11.2))))) else (some ((-1000 : Int32) - q6, σ)))) := by
          unfold f_X8_year
          rw [shelfAt_y hd]
          show (if f_X8_rowRefusal (some (2 + 2 * d)) σ = 0 then (if σ (2 + 2 * d) 2 = 0 then _ else _) else _) = _
          rw [e1, if_pos rfl, q.2.2.1, if_pos (show nI 0 = 0 from rfl)]
        have hN := q.2.1
        have hc : Tc σ (2 + 2 * d) (σ (3 + 2 * d)) N := ⟨hN, q.sz.1, fun j _ => by rw [e32]⟩
        have hr := q.2.2.2.2.2.2.2.2.2 rfl
        rcases text_two (d := d) (x1 := nI d) hc with ⟨v, v1, v2, v3⟩ | ⟨m, m1, m2, m3, m4⟩
        · obtain ⟨τ, t1, t2, t3, t4, t5⟩ := start_r (x := 0) hd q
          obtain ⟨n', ρ, r1, r2⟩ := v3 τ t2 t3
          refine ⟨(-1000 : Int32) - nI v, σ, up (cp52 ρ 62 65 52) 61 9 0, ?_, ?_, ?_⟩
          · rw [cls, v2, ob_s, if_neg (show ¬ nI v < 0 from nI_n0 (by omega))]
          · rw [t1, r1, f_X9_year_77_e, copies_eq (by decide), ob_s, show fu = 3999 + 1 from rfl, f_X9_year_93_s, if_neg (bad_ne v (by omega)).1, f_X9_year_161_e, if_neg (bad_ne v (by omega)).1]
          · have hS : Same σ (up (cp52 ρ 62 65 52) 61 9 0) := by
              refine ⟨fun i hi => ?_, ?_, ?_⟩
              · rw [up_n (by omega), cp52_n (by omega), r2.1 i (by omega) (by omega), t4 i (by omega)]
              · rw [up_n (by decide), cp52_n (by decide), r2.1 0 (by decide) (by decide), t4 0 (by decide)]
              · rw [up_s, pk_un (by decide), cp52_n (by decide), r2.2 4 (by decide), t5]
            exact hS.inv h
        · obtain ⟨ρ0, b1, b2, b3, b4, b5⟩ := become_c (i0 := 34) hy (Or.inr (by decide))
          have hc0 : Tc ρ0 (2 + 2 * d) (σ (3 + 2 * d)) N := by
            refine ⟨hN, by rw [b2 (2 + 2 * d) (by omega) (by omega)]; exact q.sz.1, fun j _ => by rw [b2 (2 + 2 * d + 1) (by omega) (by omega), e32]⟩
          have hT0 : YT ρ0 n := by
            obtain ⟨t, ht, et⟩ := hy.2.2.2.1
            exact ⟨hn, b3, ⟨t, ht, by rw [b4, et]⟩, fun k hk => (b5 k hk).1⟩
          have hQ0 : ∀ τ : St, τ 62 = σ 62 → YQ ρ0 τ n := by
            intro τ hτ
            refine ⟨by rw [hτ]; exact hy.2.2.1, by rw [hτ, b4]; exact hy.2.2.2.2.1, fun k hk j hj => ?_⟩
            rw [hτ, (b5 k hk).2 j hj]
            obtain ⟨q0, q1, q2, q3, q4⟩ := (hy.d hk).2
            have : j = 0 ∨ j = 1 ∨ j = 2 ∨ j = 3 ∨ j = 4 := by omega
            rcases this with rfl | rfl | rfl | rfl | rfl
            · exact q0
            · exact q1
            · exact q2
            · exact q3
            · exact q4
          -- the reference on any state that the class left
          have go : ∀ σ1 : St, (∀ i : Nat, (i < 21 ∨ 47 ≤ i) → σ1 i = σ i) → ∃ τ3, f_X9_year (nI d) σ1 = f_X9_year_93 (nI d) fu (nI m) 0 τ3 ∧ Tr τ3 d (σ (3 + 2 * d)) N ∧ τ3 61 9 = nI 0 ∧ YQ ρ0 τ3 n ∧ (∀ i : Nat, i ≠ 61 → i ≠ 68 → i ≠ 65 → τ3 i = σ1 i) ∧ τ3 61 4 = σ 61 4 ∧ ∀ j : Nat, j < 52 → τ3 65 j = σ 62 j := by
            intro σ1 hσ1
            have q1 : SR2 σ1 d 0 N := q.congr (hσ1 _ (by omega)) (hσ1 _ (by omega)) (fun i a b => hσ1 i (by omega))
            obtain ⟨τ, t1, t2, t3, t4, t5⟩ := start_r (x := 0) hd q1
            rw [hσ1 (3 + 2 * d) (by omega)] at t2
            obtain ⟨ρ, r1, r2⟩ := m4 τ t2 t3
            have n62 : ρ 62 = σ 62 := by rw [r2.1 62 (by decide) (by decide), t4 62 (by decide), hσ1 62 (by omega)]
            have e9 : up (cp52 ρ 62 65 52) 61 9 0 61 9 = nI 0 := by rw [up_s, pk_us]; rfl
            have hT3 : Tr (up (cp52 ρ 62 65 52) 61 9 0) d (σ (3 + 2 * d)) N := by
              obtain ⟨h1, h2, h3, h4, h5, h6⟩ := t2.rd r2
              exact ⟨h1, h2, by rw [up_s, pk_un (by decide), cp52_n (by decide)]; exact h3, by rw [up_s, pk_un (by decide), cp52_n (by decide)]; exact h4, fun j hj => by rw [up_n (by decide), cp52_n (by decide)]; exact h5 j hj, h6⟩
            refine ⟨up (cp52 ρ 62 65 52) 61 9 0, ?_, hT3, e9, hQ0 _ (by rw [up_n (by decide), cp52_n (by decide), n62]), fun i a1 a2 a3 => ?_, ?_, fun j hj => ?_⟩
            · rw [t1, r1, f_X9_year_77_e, copies_eq (by decide), ob_s]
            · rw [up_n a1, cp52_n a3, r2.1 i a1 a2, t4 i a1]
            · rw [up_s, pk_un (by decide), cp52_n (by decide), r2.2 4 (by decide), t5, hσ1 61 (by omega)]
            · rw [up_n (by decide), cp52_j]
              show (if j < 52 then ρ 62 j else _) = _
              rw [if_pos hj, n62]
          rcases second_two (i := 2 + 2 * d) (d := d) (x1 := nI d) (by omega) hr m 0 fu n ρ0 m2 (show N < 0 + fu by rw [Nat.zero_add]; exact fu_gt (by omega)) (Or.inl rfl) hc0 hT0 with ⟨v, ρ1, c1, c2, c3, c4⟩ | ⟨n', ρ1, c2, c3, c5, c4⟩
          · have c2' : f_X6_firstWrongStatement (2 + 2 * d) 34 ρ0 = some (nI v, ρ1) := c2
            have hσ1 : ∀ i : Nat, (i < 34 ∨ 47 ≤ i) → ρ1 i = σ i := fun i hi => by rw [c3 i hi, b2 i (by omega) (by omega)]
            obtain ⟨τ3, g1, g2, g3, g4, g5, g6, g7⟩ := go ρ1 (fun i hi => hσ1 i (by omega))
            obtain ⟨τ4, w1, w2, w3⟩ := c4 fu (nI m) τ3 (fu_gt (by omega)) g2 g3 g4
            refine ⟨(-2000 : Int32) - nI v, ρ1, τ4, ?_, by rw [g1, w1], ?_⟩
            · rw [cls, m3, ob_s, if_pos neg1, b1, ob_s, c2', ob_s]
              show (if nI v < 0 then _ else _) = _
              rw [if_neg (show ¬ nI v < 0 from nI_n0 (by omega))]
            · have same : ∀ i : Nat, i ≠ 61 → i ≠ 62 → i ≠ 68 → i ≠ 65 → (i < 34 ∨ 47 ≤ i) → τ4 i = σ i := fun i a1 a2 a3 a4 a5 => by rw [w2.1 i a1 a2 a3, g5 i a1 a3 a4, hσ1 i a5]
              refine h.mk2 (hy.become (i0 := 21) (r0 := 62) (n := n) ?_ ?_ (fun k hk => ?_) (fun j hj => ?_)) (fun i hi => same i (by omega) (by omega) (by omega) (by omega) (by omega)) ?_ ?_
              · rw [same 21 (by decide) (by decide) (by decide) (by decide) (by decide)]; exact hy.2.1
              · rw [same 21 (by decide) (by decide) (by decide) (by decide) (by decide)]
              · have e : τ4 (21 + 1 + 2 + k) = σ (21 + 1 + 2 + k) := same _ (by omega) (by omega) (by omega) (by omega) (by omega)
                exact ⟨(hy.2.2.2.2.2.1 k hk).congr e, fun j _ => by rw [e]⟩
              · rw [w3 j hj, g7 j hj]
              · rw [same 0 (by decide) (by decide) (by decide) (by decide) (by decide)]
              · rw [w2.2 4 (by decide), g6]
          · have c2' : f_X6_firstWrongStatement (2 + 2 * d) 34 ρ0 = some (-1, ρ1) := c2
            obtain ⟨ρ2, d1, d2, d3, d4, d5⟩ := become_2 (i0 := 21) (i1 := 34) (σ := ρ1) (n := n') ⟨c5.1, c5.2.1, c5.2.2.2⟩ (Or.inl (by decide))
            have hσ1 : ∀ i : Nat, i ≠ 21 → (i < 24 ∨ 47 ≤ i) → ρ2 i = σ i := fun i a b => by rw [d2 i a (by omega), c3 i (by omega), b2 i (by omega) (by omega)]
            obtain ⟨τ3, g1, g2, g3, g4, g5, g6, g7⟩ := go ρ2 (fun i hi => hσ1 i (by omega) (by omega))
            obtain ⟨τ4, w1, w2, w3⟩ := c4 fu τ3 (fu_gt (by omega)) g2 g3 g4 (nI m)
            have hc2 : Tc ρ2 (2 + 2 * d) (σ (3 + 2 * d)) N := ⟨hN, by rw [hσ1 (2 + 2 * d) (by omega) (by omega)]; exact q.sz.1, fun j _ => by rw [hσ1 (2 + 2 * d + 1) (by omega) (by omega), e32]⟩
            have ec : f_X6_statements (2 + 2 * d) ρ2 = some (nI m) := by
              have := cnt_text hc2 m 0 0 fu m2 (show N + 1 ≤ 4000 + 0 by omega)
              rw [Nat.zero_add] at this
              exact this
            refine ⟨nI m, ρ2, τ4, ?_, by rw [g1, w1], ?_⟩
            · rw [cls, m3, ob_s, if_pos neg1, b1, ob_s, c2', ob_s]
              show (if (-1 : Int32) < 0 then (ob (f_X7_become 21 34 ρ1) _) else _) = _
              rw [if_pos neg1, d1, ob_s, ec, ob_s]
            · have same : ∀ i : Nat, i ≠ 61 → i ≠ 62 → i ≠ 68 → i ≠ 65 → τ4 i = ρ2 i := fun i a1 a2 a3 a4 => by rw [w2.1 i a1 a2 a3, g5 i a1 a3 a4]
              obtain ⟨u1, u2, u3⟩ := w3
              have e21 : τ4 21 = ρ2 21 := same 21 (by decide) (by decide) (by decide) (by decide)
              have ek : ∀ k : Nat, k < n' → τ4 (21 + 1 + 2 + k) = ρ2 (21 + 1 + 2 + k) := fun k hk => same _ (by have := c5.1; omega) (by have := c5.1; omega) (by have := c5.1; omega) (by have := c5.1; omega)
              refine h.mk2 (m := n') ⟨c5.1, by rw [e21]; exact d3, u1, ?_, by rw [e21, u2, d4], fun k hk => (d5 k hk).1.congr (ek k hk), fun k hk => ?_⟩ (fun i hi => by rw [same i (by omega) (by omega) (by omega) (by omega), hσ1 i (by omega) (by omega)]) (by rw [same 0 (by decide) (by decide) (by decide) (by decide), hσ1 0 (by decide) (by decide)]) (by rw [w2.2 4 (by decide), g6])
              · rw [e21, d4]; exact c5.2.2.1
              · unfold DRel
                rw [ek k hk, (d5 k hk).2 0 (by decide), (d5 k hk).2 1 (by decide), (d5 k hk).2 2 (by decide), (d5 k hk).2 3 (by decide), (d5 k hk).2 4 (by decide)]
                exact ⟨u3 k hk 0 (by decide), u3 k hk 1 (by decide), u3 k hk 2 (by decide), u3 k hk 3 (by decide), u3 k hk 4 (by decide)⟩
      · have hs' : ¬ nI s = 0 := nI_ne0 (by omega) (by have := q.1; omega)
        refine ⟨-12, σ, σ, ?_, ?_, h⟩
        · unfold f_X8_year
          rw [shelfAt_y hd]
          show (if f_X8_rowRefusal (some (2 + 2 * d)) σ = 0 then (if σ (2 + 2 * d) 2 = 0 then _ else _) else _) = _
          rw [e1, if_pos rfl, q.2.2.1, if_neg hs']
        · unfold f_X9_year
          rw [wrong_0 hd q, if_neg hs', ob_s, if_neg m12]
  · obtain ⟨e1, e2, e3, -⟩ := row_no (w := 0) (σ := σ) hx
    refine ⟨-1, σ, σ, ?_, ?_, h⟩
    · unfold f_X8_year
      rw [e1]
      show some (f_X8_rowRefusal none σ, σ) = _
      rw [e2]
    · unfold f_X9_year
      rw [e3]
      rfl
