/-! PURE: slips, trueDay -/
theorem nI_2 (a : Nat) : nI a + 2 = nI (a + 2) := nI_add a 2
theorem off1_eq (d j : Nat) : (((100 : Int32) * nI d) + nI j) + (1 : Int32) = nI (100 * d + (j + 1)) := by rw [off_eq, nI_1, Nat.add_assoc]
theorem off1_in {d j : Nat} (hd : d < 8) (hj : j + 1 < 100) : inb ((((100 : Int32) * nI d) + nI j) + (1 : Int32)) 800 := by
  rw [off1_eq]; exact inb_nI (by omega) (by decide)
theorem off1_cl {d j : Nat} (hd : d < 8) (hj : j + 1 < 100) : ((((100 : Int32) * nI d) + nI j) + (1 : Int32)).toNatClampNeg = 100 * d + (j + 1) := by
  rw [off1_eq, nI_clamp (by omega)]
def pairs (σ : St) (d n m : Nat) : Prop := ∀ i : Nat, i < m → isN (σ (3 + 2 * d) (2 * i)) n ∧ isN (σ (3 + 2 * d) (2 * i + 1)) 365
theorem whole_two {σ : St} {n d s m : Nat} (hy : YR σ 21 62 n) (hd : d < 8) (q : SR2 σ d s (2 * m)) : ∀ (e f1 f2 i : Nat), i + e = m → e < f1 → e < f2 → pairs σ d n i → ∃ b : Bool, f_X2_isWhole_13 (2 + 2 * d) 21 σ f1 (nI (2 * i)) = some b ∧ f_X9_wrongDiary_30 (nI d) σ f2 (nI (2 * i)) = some (if b = true then 0 else -13) ∧ (b = true → pairs σ d n m) := by
  have hn := hy.1
  have hN := q.2.1
  have hb8 : inb (nI d) 8 := inb_nI hd (by decide)
  intro e
  induction e with
  | zero =>
    intro f1 f2 i hi g1 g2 h
    obtain ⟨f1, rfl⟩ : ∃ g, f1 = g + 1 := ⟨f1 - 1, by omega⟩
    obtain ⟨f2, rfl⟩ : ∃ g, f2 = g + 1 := ⟨f2 - 1, by omega⟩
    obtain rfl : i = m := by omega
    rw [f_X2_isWhole_13_s, f_X9_wrongDiary_30_s, q.sz.1, if_pos (nI_le (Nat.le_refl _) (by omega)), if_pos hb8, atd (σ := σ) 73 hd, q.sz.2.1, if_pos (nI_le (Nat.le_refl _) (by omega))]
    exact ⟨true, rfl, rfl, fun _ => h⟩
  | succ e ih =>
    intro f1 f2 i hi g1 g2 h
    obtain ⟨f1, rfl⟩ : ∃ g, f1 = g + 1 := ⟨f1 - 1, by omega⟩
    obtain ⟨f2, rfl⟩ : ∃ g, f2 = g + 1 := ⟨f2 - 1, by omega⟩
    rw [f_X2_isWhole_13_s, f_X9_wrongDiary_30_s, q.sz.1, if_neg (nI_ge (a := 2 * i) (b := 2 * m) (by omega) (by omega)), if_pos hb8, atd (σ := σ) 73 hd, q.sz.2.1, if_neg (nI_ge (a := 2 * i) (b := 2 * m) (by omega) (by omega)), cell_eq q (by omega), ob_s, if_pos (off_in hd (by omega)), off_cl hd (by omega), q.el (by omega)]
    rcases deed_two hy (σ (3 + 2 * d) (2 * i)) with ⟨k, hk, ek, e1, e2⟩ | ⟨hx, e1, e2⟩
    · rw [e1, e2, ob_s, ob_s, if_pos rfl, nI_1, cell_eq q (by omega), if_pos (off1_in hd (by omega)), off1_cl hd (by omega), q.el (by omega)]
      show ∃ b : Bool, (if f_X8_isWithin (σ (3 + 2 * d) (2 * i + 1)) 364 = true then _ else _) = some b ∧ _
      by_cases hw : isN (σ (3 + 2 * d) (2 * i + 1)) 365
      · rw [yes_if within364 hw, yes_if day_iff hw, nI_2, show 2 * i + 2 = 2 * (i + 1) by omega]
        refine ih f1 f2 (i + 1) (by omega) (by omega) (by omega) (fun j hj => ?_)
        by_cases hji : j = i
        · subst hji; exact ⟨⟨k, hk, ek⟩, hw⟩
        · exact h j (by omega)
      · rw [no_if within364 hw, no_if day_iff hw]
        exact ⟨false, rfl, rfl, fun z => absurd z (by decide)⟩
    · rw [e1, e2]
      exact ⟨false, rfl, rfl, fun z => absurd z (by decide)⟩
theorem rem2 {n : Nat} (h : n < 2 ^ 31) : nI n - nI n / (2 : Int32) * (2 : Int32) = nI (n % 2) := pk_rem (d := 2) h (by decide) (by decide)
theorem diary_two {σ : St} {n d s N : Nat} (hy : YR σ 21 62 n) (hd : d < 8) (q : SR2 σ d s N) (e1 : f_X8_rowRefusal (some (2 + 2 * d)) σ = 0) (e2 : f_X9_wrongRow (nI d) (-1) σ = some 0) : (f_X8_diaryRefusal (some (2 + 2 * d)) σ = some (-13) ∧ f_X9_wrongDiary (nI d) σ = some (-13)) ∨ ∃ m : Nat, N = 2 * m ∧ pairs σ d n m ∧ f_X8_diaryRefusal (some (2 + 2 * d)) σ = some 0 ∧ f_X9_wrongDiary (nI d) σ = some 0 := by
  have hN := q.2.1
  have hb8 : inb (nI d) 8 := inb_nI hd (by decide)
  have c1 : f_X8_diaryRefusal (some (2 + 2 * d)) σ = ob (f_X2_isWhole (2 + 2 * d) 21 σ) (fun q2 => if q2 = true then (some (0 : Int32)) else (some (-13 : Int32))) := by
    unfold f_X8_diaryRefusal
    show (if f_X8_rowRefusal (some (2 + 2 * d)) σ = 0 then _ else _) = _
    rw [e1, if_pos rfl]
  rw [c1]
  unfold f_X2_isWhole f_X9_wrongDiary
  rw [e2, ob_s, if_pos rfl, if_pos hb8, atd (σ := σ) 73 hd, q.sz.2.1, q.sz.1, rem2 (by omega)]
  by_cases hm : N % 2 = 0
  · obtain ⟨m, rfl⟩ : ∃ m, N = 2 * m := ⟨N / 2, by omega⟩
    rw [hm, if_pos (show nI 0 = 0 from rfl), if_neg (show ¬ nI 0 = 1 by decide)]
    obtain ⟨b, b1, b2, b3⟩ := whole_two hy hd q m fu fu 0 (by omega) (fu_gt (by omega)) (fu_gt (by omega)) (fun i hi => absurd hi (Nat.not_lt_zero i))
    have b1' : f_X2_isWhole_13 (2 + 2 * d) 21 σ fu 0 = some b := b1
    have b2' : f_X9_wrongDiary_30 (nI d) σ fu 0 = some (if b = true then 0 else -13) := b2
    rw [b1', b2', ob_s]
    cases b
    · exact Or.inl ⟨rfl, rfl⟩
    · exact Or.inr ⟨m, rfl, b3 rfl, rfl, rfl⟩
  · have hm1 : N % 2 = 1 := by omega
    rw [hm1, if_neg (show ¬ nI 1 = 0 by decide), if_pos (show nI 1 = 1 from rfl)]
    exact Or.inl ⟨rfl, rfl⟩
/-- how often told: a deed and a day; a deed alone -/
def tmS (σ : St) (d : Nat) (x y : Int32) : Nat → Nat
  | 0 => 0
  | i + 1 => if σ (3 + 2 * d) (2 * i) = x ∧ σ (3 + 2 * d) (2 * i + 1) = y then tmS σ d x y i + 1 else tmS σ d x y i
def dmS (σ : St) (d : Nat) (x : Int32) : Nat → Nat
  | 0 => 0
  | i + 1 => if σ (3 + 2 * d) (2 * i) = x then dmS σ d x i + 1 else dmS σ d x i
theorem tm_le {σ : St} {d : Nat} {x y : Int32} : ∀ i : Nat, tmS σ d x y i ≤ i
  | 0 => Nat.le_refl 0
  | i + 1 => by
    have := tm_le (σ := σ) (d := d) (x := x) (y := y) i
    unfold tmS
    split <;> omega
theorem times_c {σ : St} {d s m : Nat} (q : SR2 σ d s (2 * m)) (x y : Int32) : f_X2_timesTold (2 + 2 * d) x y σ = some (nI (tmS σ d x y m)) := by
  have hN := q.2.1
  unfold f_X2_timesTold
  refine loop_q (fun f a i => f_X2_timesTold_5 (2 + 2 * d) x y σ f a (nI (2 * i))) (fun i => nI (tmS σ d x y i)) m (some (nI (tmS σ d x y m))) ?_ ?_ fu (fu_gt (by omega))
  · intro f i hi
    show f_X2_timesTold_5 (2 + 2 * d) x y σ (f + 1) (nI (tmS σ d x y i)) (nI (2 * i)) = f_X2_timesTold_5 (2 + 2 * d) x y σ f (nI (tmS σ d x y (i + 1))) (nI (2 * (i + 1)))
    have e2 : nI (2 * i) + (2 : Int32) = nI (2 * (i + 1)) := nI_2 _
    rw [f_X2_timesTold_5_s, q.sz.1, if_neg (nI_ge (a := 2 * i) (b := 2 * m) (by omega) (by omega)), cell_eq q (by omega), ob_s, nI_1 (2 * i), cell_eq q (by omega), ob_s]
    by_cases h1 : σ (3 + 2 * d) (2 * i) = x
    · rw [if_pos h1]
      by_cases h2 : σ (3 + 2 * d) (2 * i + 1) = y
      · rw [if_pos h2, f_X2_timesTold_39_e, e2, nI_1, show tmS σ d x y (i + 1) = tmS σ d x y i + 1 from if_pos ⟨h1, h2⟩]
      · rw [if_neg h2, f_X2_timesTold_39_e, e2, show tmS σ d x y (i + 1) = tmS σ d x y i from if_neg (fun z => h2 z.2)]
    · rw [if_neg h1, f_X2_timesTold_39_e, e2, show tmS σ d x y (i + 1) = tmS σ d x y i from if_neg (fun z => h1 z.1)]
  · intro f
    show f_X2_timesTold_5 (2 + 2 * d) x y σ (f + 1) (nI (tmS σ d x y m)) (nI (2 * m)) = _
    rw [f_X2_timesTold_5_s, q.sz.1, if_pos (nI_le (Nat.le_refl _) (by omega))]
theorem often_r {σ : St} {d s m : Nat} (hd : d < 8) (q : SR2 σ d s (2 * m)) (x y : Int32) : f_X9_toldOften (nI d) x y σ = some (nI (if y < 0 then dmS σ d x m else tmS σ d x y m)) := by
  have hN := q.2.1
  have hb8 : inb (nI d) 8 := inb_nI hd (by decide)
  unfold f_X9_toldOften
  have e0 : nI (if y < 0 then dmS σ d x 0 else tmS σ d x y 0) = 0 := by
    by_cases h0 : y < 0
    · rw [if_pos h0]; rfl
    · rw [if_neg h0]; rfl
  have key := loop_q (fun f a i => f_X9_toldOften_6 (nI d) x y σ f a (nI (2 * i))) (fun i => nI (if y < 0 then dmS σ d x i else tmS σ d x y i)) m (some (nI (if y < 0 then dmS σ d x m else tmS σ d x y m))) ?_ ?_ fu (fu_gt (by omega))
  · have key2 : f_X9_toldOften_6 (nI d) x y σ fu (nI (if y < 0 then dmS σ d x 0 else tmS σ d x y 0)) (nI (2 * 0)) = some (nI (if y < 0 then dmS σ d x m else tmS σ d x y m)) := key
    rw [e0] at key2
    exact key2
  · intro f i hi
    show f_X9_toldOften_6 (nI d) x y σ (f + 1) (nI (if y < 0 then dmS σ d x i else tmS σ d x y i)) (nI (2 * i)) = f_X9_toldOften_6 (nI d) x y σ f (nI (if y < 0 then dmS σ d x (i + 1) else tmS σ d x y (i + 1))) (nI (2 * (i + 1)))
    have e2 : nI (2 * i) + (2 : Int32) = nI (2 * (i + 1)) := nI_2 _
    rw [f_X9_toldOften_6_s, if_pos hb8, atd (σ := σ) 73 hd, q.sz.2.1, if_neg (nI_ge (a := 2 * i) (b := 2 * m) (by omega) (by omega)), if_pos (off_in hd (by omega)), off_cl hd (by omega), q.el (by omega), if_pos (off1_in hd (by omega)), off1_cl hd (by omega), q.el (by omega), f_X9_toldOften_57_e, f_X9_toldOften_61_e, f_X9_toldOften_62_e, f_X9_toldOften_62_e, e2, add0, nI_1]
    by_cases h1 : σ (3 + 2 * d) (2 * i) = x
    · rw [if_pos h1]
      by_cases h0 : y < 0
      · rw [if_pos h0, if_pos h0, if_pos h0, show dmS σ d x (i + 1) = dmS σ d x i + 1 from if_pos h1]
      · rw [if_neg h0, if_neg h0, if_neg h0]
        by_cases h2 : σ (3 + 2 * d) (2 * i + 1) = y
        · rw [if_pos h2, show tmS σ d x y (i + 1) = tmS σ d x y i + 1 from if_pos ⟨h1, h2⟩]
        · rw [if_neg h2, show tmS σ d x y (i + 1) = tmS σ d x y i from if_neg (fun z => h2 z.2)]
    · rw [if_neg h1, show dmS σ d x (i + 1) = dmS σ d x i from if_neg h1, show tmS σ d x y (i + 1) = tmS σ d x y i from if_neg (fun z => h1 z.1)]
  · intro f
    show f_X9_toldOften_6 (nI d) x y σ (f + 1) (nI (if y < 0 then dmS σ d x m else tmS σ d x y m)) (nI (2 * m)) = _
    rw [f_X9_toldOften_6_s, if_pos hb8, atd (σ := σ) 73 hd, q.sz.2.1, if_pos (nI_le (Nat.le_refl _) (by omega))]
