/-! PURE: slips -/
def ddS (σ : St) (d i : Nat) : Nat → Nat
  | 0 => 0
  | k + 1 => ddS σ d i k + dmS σ d (nI k) i
theorem dd_step {σ : St} {d i a : Nat} (ha : a < 1000) (e : σ (3 + 2 * d) (2 * i) = nI a) : ∀ k : Nat, k < 1000 → ddS σ d (i + 1) k = ddS σ d i k + (if a < k then 1 else 0)
  | 0, _ => rfl
  | k + 1, hk => by
    show ddS σ d (i + 1) k + dmS σ d (nI k) (i + 1) = ddS σ d i k + dmS σ d (nI k) i + _
    rw [dd_step ha e k (by omega)]
    by_cases hc : a = k
    · rw [show dmS σ d (nI k) (i + 1) = dmS σ d (nI k) i + 1 from if_pos (by rw [e, hc]), if_neg (by omega), if_pos (by omega)]; omega
    · rw [show dmS σ d (nI k) (i + 1) = dmS σ d (nI k) i from if_neg (by rw [e, nI_eq (by omega) (by omega)]; exact hc)]
      by_cases h2 : a < k
      · rw [if_pos h2, if_pos (by omega)]; omega
      · rw [if_neg h2, if_neg (by omega)]; omega
theorem dd_0 {σ : St} {d : Nat} : ∀ k : Nat, ddS σ d 0 k = 0
  | 0 => rfl
  | k + 1 => by
    show ddS σ d 0 k + 0 = 0
    rw [dd_0 k]
theorem dd_le {σ : St} {d n m : Nat} (hn : n ≤ 10) (hp : pairs σ d n m) (k : Nat) (hk : k < 1000) : ∀ i : Nat, i ≤ m → ddS σ d i k ≤ i
  | 0, _ => by rw [dd_0]; omega
  | i + 1, h => by
    obtain ⟨a, ha, e⟩ := (hp i (by omega)).1
    have := dd_le hn hp k hk i (by omega)
    rw [dd_step (by omega) e k hk]
    split <;> omega
theorem dd_all {σ : St} {d n m : Nat} (hn : n ≤ 10) (hp : pairs σ d n m) : ∀ i : Nat, i ≤ m → ddS σ d i n = i
  | 0, _ => dd_0 n
  | i + 1, h => by
    obtain ⟨a, ha, e⟩ := (hp i (by omega)).1
    rw [dd_step (by omega) e n (by omega), dd_all hn hp i (by omega), if_pos ha]
theorem dm_0 {σ : St} {d n m j : Nat} (hn : n ≤ 10) (hp : pairs σ d n m) (hj : n ≤ j) (hj2 : j < 1000) : ∀ i : Nat, i ≤ m → dmS σ d (nI j) i = 0
  | 0, _ => rfl
  | i + 1, h => by
    obtain ⟨a, ha, e⟩ := (hp i (by omega)).1
    rw [show dmS σ d (nI j) (i + 1) = dmS σ d (nI j) i from if_neg (by rw [e, nI_eq (by omega) (by omega)]; omega)]
    exact dm_0 hn hp hj hj2 i (by omega)
def moS (σ : St) (d j : Nat) : Int32 := (f_X9_mostTold (nI d) (nI j) σ).getD 0
def ttS (σ : St) (d m : Nat) : Nat → Nat
  | 0 => 0
  | k + 1 => ttS σ d m k + tmS σ d (nI k) (moS σ d k) m
theorem tt_dd {σ : St} {d m : Nat} : ∀ k : Nat, ttS σ d m k ≤ ddS σ d m k
  | 0 => Nat.le_refl 0
  | k + 1 => by
    have h1 := tt_dd (σ := σ) (d := d) (m := m) k
    have h2 := tm_dm (σ := σ) (d := d) (x := nI k) (y := moS σ d k) m
    show ttS σ d m k + tmS σ d (nI k) (moS σ d k) m ≤ ddS σ d m k + dmS σ d (nI k) m
    omega
theorem mo_eq {σ : St} {n d s m j : Nat} (hd : d < 8) (q : SR2 σ d s (2 * m)) (hp : pairs σ d n m) : f_X2_dayToldMost (2 + 2 * d) (nI j) σ = some (moS σ d j) ∧ f_X9_mostTold (nI d) (nI j) σ = some (moS σ d j) ∧ (dmS σ d (nI j) m = 0 ∨ ¬ moS σ d j < 0) := by
  obtain ⟨r, r1, r2, r3⟩ := most_eq hd q hp (nI j)
  have e : moS σ d j = r := by unfold moS; rw [r2]; rfl
  rw [e]
  refine ⟨r1, r2, ?_⟩
  rcases r3 with ⟨-, a⟩ | ⟨y, hy, rfl⟩
  · exact Or.inl a
  · exact Or.inr (nI_n0 (by omega))
theorem struck_c {σ : St} {n d s m : Nat} (hn : n ≤ 10) (hd : d < 8) (q : SR2 σ d s (2 * m)) (hp : pairs σ d n m) : f_X2_fewestStruck (2 + 2 * d) σ = some (nI (m - ttS σ d m 10)) := by
  have hN := q.2.1
  have eh : nI (2 * m) / (2 : Int32) = nI m := by
    rw [show nI (2 * m) / (2 : Int32) = nI (2 * m / 2) from pk_div (d := 2) (by omega) (by decide) (by decide), show 2 * m / 2 = m by omega]
  unfold f_X2_fewestStruck
  rw [q.sz.1, eh]
  refine loop_q (fun f a k => f_X2_fewestStruck_9 (2 + 2 * d) σ f a (nI k)) (fun k => nI (m - ttS σ d m k)) 10 (some (nI (m - ttS σ d m 10))) ?_ ?_ fu (fu_gt (by decide))
  · intro f k hk
    show f_X2_fewestStruck_9 (2 + 2 * d) σ (f + 1) (nI (m - ttS σ d m k)) (nI k) = f_X2_fewestStruck_9 (2 + 2 * d) σ f (nI (m - (ttS σ d m k + tmS σ d (nI k) (moS σ d k) m))) (nI (k + 1))
    have h1 : ttS σ d m (k + 1) ≤ ddS σ d m (k + 1) := tt_dd (k + 1)
    have h2 := dd_le hn hp (k + 1) (by omega) m (Nat.le_refl m)
    have h3 : ttS σ d m k + tmS σ d (nI k) (moS σ d k) m ≤ m := Nat.le_trans h1 h2
    rw [f_X2_fewestStruck_9_s, if_neg (ge10 hk), (mo_eq (j := k) hd q hp).1, ob_s, times_c q, ob_s, nI_1, pk_sub (by omega), Nat.sub_sub]
  · intro f
    show f_X2_fewestStruck_9 (2 + 2 * d) σ (f + 1) (nI (m - ttS σ d m 10)) (nI 10) = _
    rw [f_X2_fewestStruck_9_s, if_pos le10]
theorem m1lt : (-1 : Int32) < 0 := by decide
theorem struck_r {σ : St} {n d s m : Nat} (hy : YR σ 21 62 n) (hd : d < 8) (q : SR2 σ d s (2 * m)) (hp : pairs σ d n m) : f_X9_slips_29 (nI d) 0 σ fu 0 0 = f_X9_slips_89 (nI d) 0 σ (nI (m - ttS σ d m n)) := by
  have hn := hy.1
  have hN := q.2.1
  have ed : ddS σ d m n = m := dd_all hn hp m (Nat.le_refl m)
  refine loop_q (fun f a k => f_X9_slips_29 (nI d) 0 σ f a (nI k)) (fun k => nI (ddS σ d m k - ttS σ d m k)) n (f_X9_slips_89 (nI d) 0 σ (nI (m - ttS σ d m n))) ?_ ?_ fu (fu_gt (by omega))
  · intro f k hk
    show f_X9_slips_29 (nI d) 0 σ (f + 1) (nI (ddS σ d m k - ttS σ d m k)) (nI k) = f_X9_slips_29 (nI d) 0 σ f (nI (ddS σ d m k + dmS σ d (nI k) m - (ttS σ d m k + tmS σ d (nI k) (moS σ d k) m))) (nI (k + 1))
    have h0 : ttS σ d m k ≤ ddS σ d m k := tt_dd k
    have h1 := tm_dm (σ := σ) (d := d) (x := nI k) (y := moS σ d k) m
    have h2 : ddS σ d m (k + 1) ≤ m := dd_le hn hp (k + 1) (by omega) m (Nat.le_refl m)
    have h2' : ddS σ d m k + dmS σ d (nI k) m ≤ m := h2
    obtain ⟨-, g2, g3⟩ := mo_eq (j := k) hd q hp
    rw [f_X9_slips_29_s, hy.2.2.1, if_neg (nI_ge hk (by omega)), if_pos rfl, often_r hd q, ob_s, if_pos m1lt, f_X9_slips_83_e, ob_s, g2, ob_s, often_r hd q, ob_s, f_X9_slips_83_e, nI_1]
    by_cases hz : dmS σ d (nI k) m = 0
    · have ht : tmS σ d (nI k) (moS σ d k) m = 0 := by omega
      rw [if_pos (show nI (dmS σ d (nI k) m) ≤ 0 by rw [hz]; decide), hz, ht]
      rfl
    · rw [if_neg (nI_nle (by omega) (by omega)), if_neg (g3.resolve_left hz), pk_sub h1, nI_add, show ddS σ d m k - ttS σ d m k + (dmS σ d (nI k) m - tmS σ d (nI k) (moS σ d k) m) = ddS σ d m k + dmS σ d (nI k) m - (ttS σ d m k + tmS σ d (nI k) (moS σ d k) m) by omega]
  · intro f
    show f_X9_slips_29 (nI d) 0 σ (f + 1) (nI (ddS σ d m n - ttS σ d m n)) (nI n) = _
    rw [f_X9_slips_29_s, hy.2.2.1, if_pos (nI_le (Nat.le_refl n) (by omega)), ed]
theorem tt_n {σ : St} {n d m : Nat} (hn : n ≤ 10) (hp : pairs σ d n m) : ∀ e : Nat, n + e ≤ 10 → ttS σ d m (n + e) = ttS σ d m n
  | 0, _ => rfl
  | e + 1, h => by
    show ttS σ d m (n + e) + tmS σ d (nI (n + e)) (moS σ d (n + e)) m = _
    have h1 := tm_dm (σ := σ) (d := d) (x := nI (n + e)) (y := moS σ d (n + e)) m
    have h2 := dm_0 (j := n + e) hn hp (by omega) (by omega) m (Nat.le_refl m)
    rw [tt_n hn hp e (by omega)]
    omega
/-- how many tell another day -/
def odS (σ : St) (d : Nat) : Nat → Int32 := lf (fun i a => if σ (24 + (σ (3 + 2 * d) (2 * i)).toNatClampNeg) 2 = σ (3 + 2 * d) (2 * i + 1) then a else a + 1) (0 : Int32)
theorem od_s {σ : St} {d i : Nat} : odS σ d (i + 1) = if σ (24 + (σ (3 + 2 * d) (2 * i)).toNatClampNeg) 2 = σ (3 + 2 * d) (2 * i + 1) then odS σ d i else odS σ d i + 1 := rfl
theorem off_c {σ : St} {n d s m : Nat} (hy : YR σ 21 62 n) (q : SR2 σ d s (2 * m)) (hp : pairs σ d n m) : f_X2_offTheirDay (2 + 2 * d) 21 σ = some (odS σ d m) := by
  have hn := hy.1
  have hN := q.2.1
  unfold f_X2_offTheirDay
  refine loop_r (fun f a i => f_X2_offTheirDay_4 (2 + 2 * d) 21 σ f a (nI (2 * i))) (odS σ d) m ?_ ?_ fu (fu_gt (by omega))
  · intro f i hi
    have e2 : nI (2 * i) + (2 : Int32) = nI (2 * (i + 1)) := nI_2 _
    obtain ⟨k, hk, ek⟩ := (hp i hi).1
    show f_X2_offTheirDay_4 (2 + 2 * d) 21 σ (f + 1) _ (nI (2 * i)) = f_X2_offTheirDay_4 (2 + 2 * d) 21 σ f _ (nI (2 * (i + 1)))
    rw [f_X2_offTheirDay_4_s, q.sz.1, if_neg (nI_ge (a := 2 * i) (b := 2 * m) (by omega) (by omega)), cell_eq q (by omega), ob_s, ek, deedAt_y hn hy.2.1 hk, nI_1 (2 * i), cell_eq q (by omega), od_s, ek, nI_clamp (n := k) (by omega)]
    show (if σ (24 + k) 2 = _ then _ else _) = _
    by_cases hc : σ (24 + k) 2 = σ (3 + 2 * d) (2 * i + 1)
    · rw [if_pos hc, if_pos hc, f_X2_offTheirDay_46_e, e2]
    · rw [if_neg hc, if_neg hc, f_X2_offTheirDay_46_e, e2]
  · intro f
    show f_X2_offTheirDay_4 (2 + 2 * d) 21 σ (f + 1) _ (nI (2 * m)) = _
    rw [f_X2_offTheirDay_4_s, q.sz.1, if_pos (nI_le (Nat.le_refl _) (by omega))]
theorem off_r {σ : St} {n d s m : Nat} (hy : YR σ 21 62 n) (hd : d < 8) (q : SR2 σ d s (2 * m)) (hp : pairs σ d n m) : f_X9_slips_92 (nI d) 1 σ fu 0 0 = some (odS σ d m) := by
  have hn := hy.1
  have hN := q.2.1
  have hb8 : inb (nI d) 8 := inb_nI hd (by decide)
  refine loop_r (fun f a i => f_X9_slips_92 (nI d) 1 σ f a (nI (2 * i))) (odS σ d) m ?_ ?_ fu (fu_gt (by omega))
  · intro f i hi
    have e2 : nI (2 * i) + (2 : Int32) = nI (2 * (i + 1)) := nI_2 _
    obtain ⟨k, hk, ek⟩ := (hp i hi).1
    show f_X9_slips_92 (nI d) 1 σ (f + 1) _ (nI (2 * i)) = f_X9_slips_92 (nI d) 1 σ f _ (nI (2 * (i + 1)))
    rw [f_X9_slips_92_s, if_pos hb8, atd (σ := σ) 73 hd, q.sz.2.1, if_neg (nI_ge (a := 2 * i) (b := 2 * m) (by omega) (by omega)), if_pos rfl, if_pos (off1_in hd (by omega)), if_pos (off_in hd (by omega)), off_cl hd (by omega), off1_cl hd (by omega), q.el (by omega), q.el (by omega), ek, if_pos (ofi2 (k := k) (by omega)), ofc2 (k := k) (by omega), (hy.d hk).2.2.2.1, f_X9_slips_153_e, f_X9_slips_153_e, e2, add0, od_s, ek, nI_clamp (n := k) (by omega)]
    by_cases hc : σ (24 + k) 2 = σ (3 + 2 * d) (2 * i + 1)
    · rw [if_pos hc, if_pos hc.symm]
    · rw [if_neg hc, if_neg (fun z => hc z.symm)]
  · intro f
    show f_X9_slips_92 (nI d) 1 σ (f + 1) _ (nI (2 * m)) = _
    rw [f_X9_slips_92_s, if_pos hb8, atd (σ := σ) 73 hd, q.sz.2.1, if_pos (nI_le (Nat.le_refl _) (by omega))]
theorem slips89_0 {σ : St} {d s m : Nat} (hd : d < 8) (q : SR2 σ d s (2 * m)) (v : Int32) : f_X9_slips_89 (nI d) 0 σ v = some v := by
  have hb8 : inb (nI d) 8 := inb_nI hd (by decide)
  rw [f_X9_slips_89_e]
  show f_X9_slips_92 (nI d) 0 σ (3999 + 1) v 0 = _
  rw [f_X9_slips_92_s, if_pos hb8]
  split
  · rfl
  · rw [if_neg (by decide)]
theorem p_slips {σ : St} (h : Inv σ) (x y : Int32) : ∃ r, f_X8_slips x y σ = some r ∧ f_X9_slips x y σ = some r := by
  obtain ⟨n, hy⟩ := h.1
  have hn := hy.1
  unfold f_X8_slips f_X9_slips
  by_cases hyy : isN y 2
  · rw [yes_if below2 hyy, yes_if isin1 hyy]
    by_cases hx : isN x 8
    · obtain ⟨d, hd, rfl⟩ := hx
      rw [shelfAt_y hd]
      show ∃ r, ob (f_X8_diaryRefusal (some (2 + 2 * d)) σ) _ = some r ∧ _
      have bad : ∀ c : Int32, ¬ c = 0 → f_X8_rowRefusal (some (2 + 2 * d)) σ = c → (∀ w, f_X9_wrongRow (nI d) w σ = some c) → f_X8_diaryRefusal (some (2 + 2 * d)) σ = some c ∧ f_X9_wrongDiary (nI d) σ = some c := by
        intro c hc a b
        constructor
        · unfold f_X8_diaryRefusal
          show (if f_X8_rowRefusal (some (2 + 2 * d)) σ = 0 then _ else _) = _
          rw [a, if_neg hc]
        · unfold f_X9_wrongDiary
          rw [b, ob_s, if_neg hc]
      rcases row_two hd (h.2.2 d hd) with ⟨a1, a2⟩ | ⟨a1, a2⟩ | ⟨s, N, q, a1, a2, -⟩
      · obtain ⟨b1, b2⟩ := bad _ (by decide) a1 a2
        rw [b1, b2]
        exact ⟨-11, rfl, rfl⟩
      · obtain ⟨b1, b2⟩ := bad _ (by decide) a1 a2
        rw [b1, b2]
        exact ⟨-12, rfl, rfl⟩
      · rcases diary_two hy hd q a1 a2 with ⟨b1, b2⟩ | ⟨m, rfl, hp, b1, b2⟩
        · rw [b1, b2]
          exact ⟨-13, rfl, rfl⟩
        · rw [b1, b2, ob_s, ob_s, if_pos rfl, if_pos rfl]
          obtain ⟨j, hj, rfl⟩ := hyy
          have : j = 0 ∨ j = 1 := by omega
          rcases this with rfl | rfl
          · rw [if_pos (show nI 0 = 0 from rfl), struck_c hn hd q hp]
            refine ⟨_, rfl, ?_⟩
            show f_X9_slips_29 (nI d) 0 σ fu 0 0 = _
            have e := tt_n hn hp (10 - n) (by omega)
            rw [show n + (10 - n) = 10 by omega] at e
            rw [struck_r hy hd q hp, slips89_0 hd q, e]
          · rw [if_neg (show ¬ nI 1 = 0 by decide), off_c hy q hp]
            refine ⟨_, rfl, ?_⟩
            show f_X9_slips_29 (nI d) 1 σ (3999 + 1) 0 0 = _
            rw [f_X9_slips_29_s, f_X9_slips_89_e]
            split
            · exact off_r hy hd q hp
            · rw [if_neg (by decide)]
              exact off_r hy hd q hp
    · obtain ⟨a1, a2, a3, -⟩ := row_no (w := -1) (σ := σ) hx
      have b2 : f_X9_wrongDiary x σ = some (-1) := by
        unfold f_X9_wrongDiary
        rw [a3, ob_s, if_neg (by decide)]
      rw [a1, b2]
      exact ⟨-1, rfl, rfl⟩
  · rw [no_if below2 hyy, no_if isin1 hyy]
    exact ⟨_, rfl, rfl⟩
