/-! PURE: guilty, price, two -/
theorem loop_j {α β : Type} (L : Nat → α → Nat → β) (I : Nat → α → Prop) (Q : β → Prop) (n : Nat) (hs : ∀ f k a, k < n → I k a → ∃ a', I (k + 1) a' ∧ L (f + 1) a k = L f a' (k + 1)) (he : ∀ f a, I n a → Q (L (f + 1) a n)) (f : Nat) (a : α) (h0 : I 0 a) (hf : n < f) : Q (L f a 0) := by
  have key : ∀ (d f k : Nat) (a : α), k + d = n → d < f → I k a → Q (L f a k) := by
    intro d
    induction d with
    | zero =>
      intro f k a hk hf h
      obtain ⟨g, rfl⟩ : ∃ g, f = g + 1 := ⟨f - 1, by omega⟩
      obtain rfl : k = n := by omega
      exact he g a h
    | succ d ih =>
      intro f k a hk hf h
      obtain ⟨g, rfl⟩ : ∃ g, f = g + 1 := ⟨f - 1, by omega⟩
      obtain ⟨a', h', e⟩ := hs g k a (by omega) h
      rw [e]
      exact ih g (k + 1) a' (by omega) (by omega) h'
  exact key n f 0 a (by omega) hf h0
theorem gt99 {k : Nat} (h : k ≤ 99) : ¬ (99 : Int32) < nI k := nI_nlt (b := k) (a := 99) h (by decide)
theorem lt99 : (99 : Int32) < nI 100 := nI_lt (a := 99) (b := 100) (by decide) (by decide)
theorem gt364 {k : Nat} (h : k ≤ 364) : ¬ (364 : Int32) < nI k := nI_nlt (b := k) (a := 364) h (by decide)
theorem gt365 {k : Nat} (h : k ≤ 365) : ¬ (365 : Int32) < nI k := nI_nlt (b := k) (a := 365) h (by decide)
theorem mask_or : ∀ n : Nat, n < 10 → ∀ v : Nat, v < 2 ^ n → nI v ||| ((1 : Int32) <<< (nI n &&& 31)) = nI (v + 2 ^ n) := by decide +kernel
theorem mask_rng {P : Nat → Bool} : ∀ {n : Nat}, n ≤ 10 → ∃ v : Nat, v < 2 ^ n ∧ maskS P n = nI v
  | 0, _ => ⟨0, by decide, rfl⟩
  | n + 1, h => by
    obtain ⟨v, hv, e⟩ := mask_rng (P := P) (n := n) (by omega)
    by_cases hp : P n = true
    · rw [maskS_t hp, e, mask_or n (by omega) v hv]
      exact ⟨_, by rw [Nat.pow_succ]; omega, rfl⟩
    · rw [maskS_f hp, e]
      exact ⟨v, by rw [Nat.pow_succ]; omega, rfl⟩
def burS (σ : St) (p : Int32) (k : Nat) : Int32 := if toldS σ 21 k = true ∧ σ (21 + 1 + 2 + k) 3 = p then f_X1_burden (21 + 1 + 2 + k) σ else 0
def guS (σ : St) (n p : Nat) : Int32 := sumS (burS σ (nI p)) n
theorem weigh_22 {σ τ : St} {n : Nat} (hy : YR σ 21 62 n) (h1 : ∀ i : Nat, i ≠ 21 + 2 → τ i = σ i) (h2 : ∀ p : Nat, p < 5 → τ (21 + 2) p = 0) : ∃ ρ, f_X7_weighBurdens_26 21 fu 0 τ = some ρ ∧ (∀ i : Nat, i ≠ 21 + 2 → ρ i = σ i) ∧ ∀ p : Nat, p < 5 → ρ (21 + 2) p = guS σ n p := by
  have hn := hy.1
  refine loop_j (fun f τ k => f_X7_weighBurdens_26 21 f (nI k) τ) (fun k τ => (∀ i : Nat, i ≠ 21 + 2 → τ i = σ i) ∧ ∀ p : Nat, p < 5 → τ (21 + 2) p = guS σ k p) (fun b => ∃ ρ, b = some ρ ∧ (∀ i : Nat, i ≠ 21 + 2 → ρ i = σ i) ∧ ∀ p : Nat, p < 5 → ρ (21 + 2) p = guS σ n p) n ?_ ?_ fu τ ⟨h1, h2⟩ (fu_gt (by omega))
  · intro f k τ hk ⟨i1, i2⟩
    have e21 : τ 21 = σ 21 := i1 21 (by decide)
    have ek : τ (21 + 1 + 2 + k) = σ (21 + 1 + 2 + k) := i1 _ (by omega)
    obtain ⟨a, b, d, w, s, ha, hb, hd, hw, hs, ht, e0, e1, e2, e3, -⟩ := (hy.d hk).1
    have e3' : σ (21 + 1 + 2 + k) 3 = nI w := e3
    have et : toldS τ 21 k = toldS σ 21 k := by unfold toldS; rw [e21, ek]
    have eb : f_X1_burden (21 + 1 + 2 + k) τ = f_X1_burden (21 + 1 + 2 + k) σ := by unfold f_X1_burden; rw [ek]
    show ∃ a', _ ∧ f_X7_weighBurdens_26 21 (f + 1) (nI k) τ = f_X7_weighBurdens_26 21 f (nI (k + 1)) a'
    have h21 : τ 21 2 = nI n := by rw [e21]; exact hy.2.1
    rw [f_X7_weighBurdens_26_s]
    by_cases hc : toldS σ 21 k = true
    · have hi2 : inb (τ (21 + 1 + 2 + k) 3) 5 := by
        rw [ek, e3']
        exact inb_nI hw (by decide)
      rw [toldAt_t hn h21 hk (et.trans hc), h21, if_neg (nI_ge hk (by omega)), ob_s, oc_ss, yes_if below5 (show isN (τ (21 + 1 + 2 + k) 3) 5 by rw [ek, e3']; exact ⟨w, hw, rfl⟩), if_pos hi2, if_pos hi2, f_X7_weighBurdens_75_e, ek, e3', nI_clamp (n := w) (by omega), eb, nI_1]
      refine ⟨_, ⟨fun i hi => by rw [up_n hi, i1 i hi], fun p hp => ?_⟩, rfl⟩
      rw [up_s]
      unfold guS
      rw [sumS_s]
      by_cases hpw : p = w
      · subst hpw
        rw [pk_us, i2 p hp]
        unfold guS
        rw [show burS σ (nI p) k = _ from if_pos ⟨hc, e3'⟩]
      · rw [pk_un hpw, i2 p hp]
        rw [show burS σ (nI p) k = _ from if_neg (fun q => hpw ((nI_eq (by omega) (by omega)).mp (q.2.symm.trans e3'))), add0]
        rfl
    · rw [toldAt_f hn h21 hk (fun q => hc (et.symm.trans q)), h21, if_neg (nI_ge hk (by omega)), ob_s, oc_nn, f_X7_weighBurdens_75_e, nI_1]
      refine ⟨τ, ⟨i1, fun p hp => ?_⟩, rfl⟩
      rw [i2 p hp]
      unfold guS
      rw [sumS_0 (show burS σ (nI p) k = 0 from if_neg (fun q => hc q.1))]
  · intro f τ ⟨i1, i2⟩
    refine ⟨τ, ?_, i1, i2⟩
    show f_X7_weighBurdens_26 21 (f + 1) (nI n) τ = _
    rw [f_X7_weighBurdens_26_s, i1 21 (by decide), hy.2.1, if_pos (nI_le (Nat.le_refl n) (by omega))]
theorem weigh_eq {σ : St} {n : Nat} (hy : YR σ 21 62 n) : ∃ ρ, f_X7_weighBurdens 21 σ = some ρ ∧ (∀ i : Nat, i ≠ 21 + 2 → ρ i = σ i) ∧ ∀ p : Nat, p < 5 → ρ (21 + 2) p = guS σ n p := by
  refine loop_j (fun f τ k => f_X7_weighBurdens_2 21 f (nI k) τ) (fun k τ => (∀ i : Nat, i ≠ 21 + 2 → τ i = σ i) ∧ ∀ p : Nat, p < k → τ (21 + 2) p = 0) (fun b => ∃ ρ, b = some ρ ∧ (∀ i : Nat, i ≠ 21 + 2 → ρ i = σ i) ∧ ∀ p : Nat, p < 5 → ρ (21 + 2) p = guS σ n p) 5 ?_ ?_ fu σ ⟨fun _ _ => rfl, fun p hp => absurd hp (Nat.not_lt_zero p)⟩ (fu_gt (by decide))
  · intro f k τ hk ⟨i1, i2⟩
    show ∃ a', _ ∧ f_X7_weighBurdens_2 21 (f + 1) (nI k) τ = f_X7_weighBurdens_2 21 f (nI (k + 1)) a'
    rw [f_X7_weighBurdens_2_s, if_neg (ge5 hk), if_pos (inb_nI hk (by decide)), nI_clamp (n := k) (by omega), nI_1]
    refine ⟨_, ⟨fun i hi => by rw [up_n hi, i1 i hi], fun p hp => ?_⟩, rfl⟩
    rw [up_s]
    by_cases hpk : p = k
    · rw [hpk, pk_us]
    · rw [pk_un hpk, i2 p (by omega)]
  · intro f τ ⟨i1, i2⟩
    show ∃ ρ, f_X7_weighBurdens_2 21 (f + 1) (nI 5) τ = some ρ ∧ _
    rw [f_X7_weighBurdens_2_s, if_pos le5]
    exact weigh_22 hy i1 i2
theorem burd_eq {σ : St} {x : Int32} : f_X7_burdenedWith 21 x σ = some (maskS (fun p => !decide (σ (21 + 2) p < x)) 5) := by
  unfold f_X7_burdenedWith
  refine loop_r (fun f a k => f_X7_burdenedWith_4 21 x σ f a (nI k)) (maskS _) 5 ?_ ?_ fu (fu_gt (by decide))
  · intro f k hk
    show f_X7_burdenedWith_4 21 x σ (f + 1) _ (nI k) = f_X7_burdenedWith_4 21 x σ f _ (nI (k + 1))
    rw [f_X7_burdenedWith_4_s, if_neg (ge5 hk), if_pos (inb_nI hk (by decide)), nI_clamp (n := k) (by omega)]
    by_cases hc : σ (21 + 2) k < x
    · rw [if_pos hc, f_X7_burdenedWith_29_e, nI_1, maskS_f (by simp [hc])]
    · rw [if_neg hc, f_X7_burdenedWith_29_e, nI_1, maskS_t (by simp [hc])]
  · intro f
    show f_X7_burdenedWith_4 21 x σ (f + 1) _ (nI 5) = _
    rw [f_X7_burdenedWith_4_s, if_pos le5]
theorem guiltOf_eq {σ : St} {n : Nat} (hy : YR σ 21 62 n) (p : Nat) : f_X9_guiltOf (nI p) σ = some (guS σ n p) := by
  have hn := hy.1
  unfold f_X9_guiltOf
  refine loop_r (fun f a k => f_X9_guiltOf_4 (nI p) σ f a (nI k)) (sumS _) n ?_ ?_ fu (fu_gt (by omega))
  · intro f k hk
    have hk10 := Nat.lt_of_lt_of_le hk hy.1
    show f_X9_guiltOf_4 (nI p) σ (f + 1) _ (nI k) = f_X9_guiltOf_4 (nI p) σ f _ (nI (k + 1))
    rw [f_X9_guiltOf_4_s, hy.2.2.1, if_neg (nI_ge hk (by omega)), told_rS hy hk, ob_s, sumS_s]
    by_cases ht : toldS σ 21 k = true
    · rw [if_pos ht, if_pos (ofi3 hk10), ofc3 hk10, (hy.d hk).2.2.2.2.1]
      by_cases hw : σ (24 + k) 3 = nI p
      · rw [if_pos hw, if_pos (ofi0 hk10), if_pos (ofi1 hk10), ofc0 hk10, ofc1 hk10, (hy.d hk).2.1, (hy.d hk).2.2.1, (hy.d hk).1.guilt, f_X9_guiltOf_67_e, nI_1, show burS σ (nI p) k = _ from if_pos ⟨ht, hw⟩]
      · rw [if_neg hw, f_X9_guiltOf_66_e, f_X9_guiltOf_67_e, nI_1, show burS σ (nI p) k = _ from if_neg (fun q => hw q.2)]
    · rw [if_neg ht, f_X9_guiltOf_66_e, f_X9_guiltOf_67_e, nI_1, show burS σ (nI p) k = _ from if_neg (fun q => ht q.1)]
  · intro f
    show f_X9_guiltOf_4 (nI p) σ (f + 1) _ (nI n) = _
    rw [f_X9_guiltOf_4_s, hy.2.2.1, if_pos (nI_le (Nat.le_refl n) (by omega))]
def gmS (σ : St) (n : Nat) (x : Int32) : Int32 := maskS (fun p => !decide (guS σ n p < x)) 5
theorem guiltyBy_eq {σ : St} {n : Nat} (hy : YR σ 21 62 n) (x : Int32) : f_X9_guiltyBy x σ = some (gmS σ n x) := by
  unfold f_X9_guiltyBy
  refine loop_r (fun f a k => f_X9_guiltyBy_4 x σ f a (nI k)) (maskS _) 5 ?_ ?_ fu (fu_gt (by decide))
  · intro f k hk
    show f_X9_guiltyBy_4 x σ (f + 1) _ (nI k) = f_X9_guiltyBy_4 x σ f _ (nI (k + 1))
    rw [f_X9_guiltyBy_4_s, if_neg (ge5 hk), guiltOf_eq hy, ob_s, maskS_s]
    by_cases hc : guS σ n k < x
    · rw [if_pos hc, f_X9_guiltyBy_26_e, nI_1, if_neg (by simp [hc])]
    · rw [if_neg hc, f_X9_guiltyBy_26_e, nI_1, if_pos (by simp [hc])]
  · intro f
    show f_X9_guiltyBy_4 x σ (f + 1) _ (nI 5) = _
    rw [f_X9_guiltyBy_4_s, if_pos le5]
theorem guS_congr {σ τ : St} {n : Nat} (hn : n ≤ 10) (h : ∀ i : Nat, i ≠ 21 + 2 → τ i = σ i) (p : Nat) : guS τ n p = guS σ n p := by
  refine sumS_congr (fun k hk => ?_)
  unfold burS toldS f_X1_burden
  rw [h 21 (by decide), h (21 + 1 + 2 + k) (by omega)]
theorem burd_gm {σ ρ : St} {n : Nat} {x : Int32} (h2 : ∀ p : Nat, p < 5 → ρ (21 + 2) p = guS σ n p) : f_X7_burdenedWith 21 x ρ = some (gmS σ n x) := by
  rw [burd_eq]
  exact congrArg some (maskS_congr (fun k hk => by rw [h2 k hk]))
theorem gm_congr {σ τ : St} {n : Nat} (hn : n ≤ 10) (h : ∀ i : Nat, i ≠ 21 + 2 → τ i = σ i) (x : Int32) : gmS τ n x = gmS σ n x := maskS_congr (fun k _ => by rw [guS_congr hn h])
theorem same23 {σ ρ : St} (h : ∀ i : Nat, i ≠ 21 + 2 → ρ i = σ i) : Same σ ρ := ⟨fun i hi => h i (by omega), by rw [h 0 (by decide)], by rw [h 61 (by decide)]⟩
theorem p_guilty {σ : St} (h : Inv σ) (x : Int32) : ∃ r σ1, f_X8_guilty x σ = some (r, σ1) ∧ f_X9_guilty x σ1 = some r ∧ Inv σ1 := by
  obtain ⟨n, hy⟩ := h.1
  unfold f_X8_guilty f_X9_guilty
  by_cases h1 : x < (-30 : Int32)
  · rw [if_pos h1]
    refine ⟨_, _, rfl, ?_, h⟩
    rw [no_if isIn_iff]
    rw [i32_lt] at h1
    omega
  · rw [if_neg h1]
    by_cases h2 : x ≤ (99 : Int32)
    · obtain ⟨ρ, e1, e2, e3⟩ := weigh_eq hy
      rw [if_pos h2, e1, ob_s, burd_gm e3, ob_s]
      refine ⟨_, _, rfl, ?_, (same23 e2).inv h⟩
      rw [yes_if isIn_iff (by rw [i32_lt] at h1; rw [i32_le] at h2; omega)]
      have hy2 : YR ρ 21 62 n := hy.congr (e2 _ (by decide)) (e2 _ (by decide)) (fun k hk => e2 _ (by omega))
      rw [guiltyBy_eq hy2, ob_s, gm_congr hy.1 e2]
    · rw [if_neg h2]
      refine ⟨_, _, rfl, ?_, h⟩
      rw [no_if isIn_iff]
      rw [i32_le] at h2
      omega
/-- the price: the best g so far, and what it brings -/
def priS (σ : St) (n : Nat) : Nat → Int32 × Int32 := lf (fun k a => if a.2 < nI (k + 1) * f_J6_bitCount_0f7a4 (gmS σ n (nI (k + 1))) then (nI (k + 1), nI (k + 1) * f_J6_bitCount_0f7a4 (gmS σ n (nI (k + 1)))) else a) ((1 : Int32), (0 : Int32))
theorem priS_0 {σ : St} {n : Nat} : priS σ n 0 = ((1 : Int32), (0 : Int32)) := rfl
theorem priS_s {σ : St} {n k : Nat} : priS σ n (k + 1) = if (priS σ n k).2 < nI (k + 1) * f_J6_bitCount_0f7a4 (gmS σ n (nI (k + 1))) then (nI (k + 1), nI (k + 1) * f_J6_bitCount_0f7a4 (gmS σ n (nI (k + 1)))) else priS σ n k := rfl
theorem price_c {σ ρ : St} {n : Nat} {x : Int32} (h2 : ∀ p : Nat, p < 5 → ρ (21 + 2) p = guS σ n p) : f_X8_price_24 x fu 1 0 1 ρ = some (if x = 0 then (priS σ n 99).1 else (priS σ n 99).2, ρ) := by
  refine loop_q (fun f (a : Int32 × Int32) k => f_X8_price_24 x f a.1 a.2 (nI (k + 1)) ρ) (priS σ n) 99 (some (if x = 0 then (priS σ n 99).1 else (priS σ n 99).2, ρ)) ?_ ?_ fu (fu_gt (by decide))
  · intro f k hk
    generalize ea : priS σ n k = a
    show f_X8_price_24 x (f + 1) a.1 a.2 (nI (k + 1)) ρ = f_X8_price_24 x f (priS σ n (k + 1)).1 (priS σ n (k + 1)).2 (nI (k + 1 + 1)) ρ
    rw [f_X8_price_24_s, if_neg (gt99 (k := k + 1) (by omega)), burd_gm h2, ob_s, priS_s, ea]
    by_cases hc : nI (k + 1) * f_J6_bitCount_0f7a4 (gmS σ n (nI (k + 1))) ≤ a.2
    · rw [if_pos hc, if_neg (fun q => absurd hc (le_nlt.mpr q)), f_X8_price_60_e, nI_1]
    · rw [if_neg hc, if_pos (le_nlt.mp hc), f_X8_price_60_e, nI_1]
  · intro f
    show f_X8_price_24 x (f + 1) _ _ (nI (99 + 1)) ρ = _
    rw [f_X8_price_24_s, if_pos lt99]
    by_cases hx : x = 0
    · rw [if_pos hx, if_pos hx]
    · rw [if_neg hx, if_neg hx]
theorem pop_1 : ∀ v : Nat, v < 2 ^ 5 → ((-1 : Int32) < nI 1 * f_J6_bitCount_0f7a4 (nI v)) ∧ (¬ (0 : Int32) < nI 1 * f_J6_bitCount_0f7a4 (nI v) → nI 1 * f_J6_bitCount_0f7a4 (nI v) = 0) := by decide +kernel
theorem gm_bits {σ τ : St} {n : Nat} {x : Int32} : f_X9_bits (gmS σ n x) τ = some (f_J6_bitCount_0f7a4 (gmS σ n x)) := by
  obtain ⟨v, hv, e⟩ := mask_rng (P := fun p => !decide (guS σ n p < x)) (n := 5) (by decide)
  rw [show gmS σ n x = nI v from e, pop_bits (Nat.lt_of_lt_of_le hv (by decide))]
theorem price_r1 {σ : St} {n : Nat} {x : Int32} (hy : YR σ 21 62 n) (f : Nat) (hf : 98 < f) : f_X9_price_18 x σ f (priS σ n 1).1 (priS σ n 1).2 (nI 2) = some (if x = 0 then (priS σ n 99).1 else (priS σ n 99).2) := by
  refine loop_q (fun f (a : Int32 × Int32) k => f_X9_price_18 x σ f a.1 a.2 (nI (k + 2))) (fun j => priS σ n (j + 1)) 98 (some (if x = 0 then (priS σ n 99).1 else (priS σ n 99).2)) ?_ ?_ f hf
  · intro f k hk
    generalize ea : priS σ n (k + 1) = a
    show f_X9_price_18 x σ (f + 1) a.1 a.2 (nI (k + 2)) = f_X9_price_18 x σ f (priS σ n (k + 1 + 1)).1 (priS σ n (k + 1 + 1)).2 (nI (k + 1 + 2))
    rw [f_X9_price_18_s, if_neg (gt99 (k := k + 2) (by omega)), guiltyBy_eq hy, ob_s, gm_bits, ob_s, priS_s, ea]
    show (if a.2 < nI (k + 1 + 1) * _ then _ else _) = _
    by_cases hc : a.2 < nI (k + 1 + 1) * f_J6_bitCount_0f7a4 (gmS σ n (nI (k + 1 + 1)))
    · rw [if_pos hc, if_pos hc, f_X9_price_54_e, nI_1]
    · rw [if_neg hc, if_neg hc, f_X9_price_54_e, nI_1]
  · intro f
    show f_X9_price_18 x σ (f + 1) _ _ (nI (98 + 2)) = _
    rw [f_X9_price_18_s, if_pos lt99]
    by_cases hx : x = 0
    · rw [if_pos hx, if_pos hx]
    · rw [if_neg hx, if_neg hx]
theorem price_r {σ : St} {n : Nat} {x : Int32} (hy : YR σ 21 62 n) : f_X9_price_18 x σ fu 1 (-1) 1 = some (if x = 0 then (priS σ n 99).1 else (priS σ n 99).2) := by
  show f_X9_price_18 x σ (3999 + 1) 1 (-1) (nI 1) = _
  obtain ⟨v, hv, e⟩ := mask_rng (P := fun p => !decide (guS σ n p < nI 1)) (n := 5) (by decide)
  have e' : gmS σ n (nI 1) = nI v := e
  obtain ⟨q1, q2⟩ := pop_1 v hv
  rw [f_X9_price_18_s, if_neg (gt99 (k := 1) (by decide)), guiltyBy_eq hy, ob_s, gm_bits, ob_s, e', if_pos q1, f_X9_price_54_e, nI_1, ← price_r1 hy 3999 (by decide), priS_s, e']
  by_cases hc : (0 : Int32) < nI 1 * f_J6_bitCount_0f7a4 (nI v)
  · rw [if_pos (show (priS σ n 0).2 < _ from hc)]
  · rw [if_neg (show ¬ (priS σ n 0).2 < _ from hc), q2 hc]
    rfl
theorem pri_congr {σ τ : St} {n : Nat} (hn : n ≤ 10) (h : ∀ i : Nat, i ≠ 21 + 2 → τ i = σ i) : ∀ k : Nat, priS τ n k = priS σ n k
  | 0 => priS_0.trans priS_0.symm
  | k + 1 => by rw [priS_s, priS_s, pri_congr hn h k, gm_congr hn h]
theorem p_price {σ : St} (h : Inv σ) (x : Int32) : ∃ r σ1, f_X8_price x σ = some (r, σ1) ∧ f_X9_price x σ1 = some r ∧ Inv σ1 := by
  obtain ⟨n, hy⟩ := h.1
  unfold f_X8_price f_X9_price
  by_cases hx : isN x 2
  · obtain ⟨ρ, e1, e2, e3⟩ := weigh_eq hy
    have hy2 : YR ρ 21 62 n := hy.congr (e2 _ (by decide)) (e2 _ (by decide)) (fun k hk => e2 _ (by omega))
    rw [yes_if below2 hx, e1, ob_s, price_c e3]
    refine ⟨_, _, rfl, ?_, (same23 e2).inv h⟩
    rw [yes_if isin1 hx, price_r hy2, pri_congr hy.1 e2]
  · rw [no_if below2 hx]
    refine ⟨_, _, rfl, ?_, h⟩
    rw [no_if isin1 hx]
/-- two -/
theorem done_gain {x a b g : Int32} (hg : f_X9_guiltBy (x / (10 : Int32)) (x - x / (10 : Int32) * (10 : Int32)) = g) (hb : b = 0 ∨ b = 1) : f_X9_hasDone x a b = f_X8_gain a b g := by
  unfold f_X9_hasDone f_X8_gain f_X9_hasDone_18 f_X8_gain_15
  rw [hg]
  rcases hb with rfl | rfl
  · rw [if_neg (show ¬ (0 : Int32) = 1 by decide), if_pos rfl]
  · rw [if_pos rfl, if_neg (show ¬ (1 : Int32) = 0 by decide)]
theorem ten_of {j : Nat} (h : j < 80) : f_X9_guiltBy (nI j / (10 : Int32)) (nI j - nI j / (10 : Int32) * (10 : Int32)) = f_X4_burden (nI j / (10 : Int32)) (nI j - nI j / (10 : Int32) * (10 : Int32)) := by
  have e1 : nI j / (10 : Int32) = nI (j / 10) := pk_div (d := 10) (by omega) (by decide) (by decide)
  have e2 : nI j - nI j / (10 : Int32) * (10 : Int32) = nI (j % 10) := pk_rem (d := 10) (by omega) (by decide) (by decide)
  rw [e2, e1]
  exact guilt_eq _ (by omega) _ (Nat.mod_lt _ (by decide))
theorem two_bit : ∀ k : Nat, k < 4 → (nI k / (2 : Int32) = 0 ∨ nI k / (2 : Int32) = 1) ∧ (nI k - nI k / (2 : Int32) * (2 : Int32) = 0 ∨ nI k - nI k / (2 : Int32) * (2 : Int32) = 1) := by decide +kernel
theorem p_two {σ : St} (x y : Int32) : ∃ r, f_X8_two x y σ = some r ∧ f_X9_two x y σ = some r := by
  unfold f_X8_two f_X9_two
  by_cases hx : isN x 80
  · rw [yes_if below80 hx, yes_if isin79 hx]
    by_cases hz : isN y 80
    · rw [yes_if below80 hz, yes_if isin79 hz]
      obtain ⟨i, hi, rfl⟩ := hx
      obtain ⟨j, hj, rfl⟩ := hz
      have key : ∀ (d f1 f2 k : Nat), k + d = 4 → d < f1 → d < f2 → ∃ r, f_X8_two_48 (nI i) (nI j) σ f1 (f_X4_burden (nI i / (10 : Int32)) (nI i - nI i / (10 : Int32) * (10 : Int32))) (f_X4_burden (nI j / (10 : Int32)) (nI j - nI j / (10 : Int32) * (10 : Int32))) (nI k) = some r ∧ f_X9_two_24 (nI i) (nI j) σ f2 (nI k) = some r := by
        intro d
        induction d with
        | zero =>
          intro f1 f2 k hk h1 h2
          obtain ⟨f1, rfl⟩ : ∃ g, f1 = g + 1 := ⟨f1 - 1, by omega⟩
          obtain ⟨f2, rfl⟩ : ∃ g, f2 = g + 1 := ⟨f2 - 1, by omega⟩
          obtain rfl : k = 4 := by omega
          rw [f_X8_two_48_s, f_X9_two_24_s, if_pos le4, if_pos le4]
          exact ⟨_, rfl, rfl⟩
        | succ d ih =>
          intro f1 f2 k hk h1 h2
          obtain ⟨f1, rfl⟩ : ∃ g, f1 = g + 1 := ⟨f1 - 1, by omega⟩
          obtain ⟨f2, rfl⟩ : ∃ g, f2 = g + 1 := ⟨f2 - 1, by omega⟩
          obtain ⟨b1, b2⟩ := two_bit k (by omega)
          rw [f_X8_two_48_s, f_X9_two_24_s, if_neg (ge4 (k := k) (by omega)), if_neg (ge4 (k := k) (by omega)), done_gain (ten_of hi) b2, done_gain (ten_of hi) b2, done_gain (ten_of hj) b1, done_gain (ten_of hj) b1]
          unfold f_X8_isContent
          split
          · rw [if_neg (by decide), f_X8_two_98_e, f_X9_two_90_e, nI_1]
            exact ih f1 f2 (k + 1) (by omega) (by omega) (by omega)
          · rw [if_pos rfl]
            split
            · rw [if_neg (by decide), f_X8_two_98_e, f_X9_two_90_e, nI_1]
              exact ih f1 f2 (k + 1) (by omega) (by omega) (by omega)
            · rw [if_pos rfl]
              exact ⟨_, rfl, rfl⟩
      exact key 4 fu fu 0 (by decide) (fu_gt (by decide)) (fu_gt (by decide))
    · rw [no_if below80 hz, no_if isin79 hz]
      exact ⟨_, rfl, rfl⟩
  · rw [no_if below80 hx, no_if isin79 hx]
    exact ⟨_, rfl, rfl⟩
