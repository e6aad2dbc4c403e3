/-! PURE: the reference's print, and what reads it -/
theorem b2_lt {a b : Nat} (h : b < a) (ha : a < 2 ^ 31) : ¬ nI a ≤ nI b := nI_ge h ha
theorem ahead_r {σ τ : St} {n a b : Nat} (hy : YR σ 21 62 n) (ha : a < n) (hb : b < a) (h1 : τ 62 = σ 62) (h2 : ∀ i : Nat, 24 ≤ i → i < 34 → τ i = σ i) : f_X9_isAhead (nI a) (nI b) τ = some (ahS σ (nI a) (nI b)) := by
  have hn := hy.1
  have sa : f_X9_sizeOf 62 (nI a) τ = some (f_X1_size (24 + a) σ) := by
    rw [sizeOf_rel (σ := τ) (i := 24 + a) (by omega) ((hy.d ha).1.congr (h2 _ (by omega) (by omega))) ((hy.d ha).2.congr (h2 _ (by omega) (by omega)) h1), size_congr (h2 _ (by omega) (by omega))]
  have sb : f_X9_sizeOf 62 (nI b) τ = some (f_X1_size (24 + b) σ) := by
    rw [sizeOf_rel (σ := τ) (i := 24 + b) (by omega) ((hy.d (k := b) (by omega)).1.congr (h2 _ (by omega) (by omega))) ((hy.d (k := b) (by omega)).2.congr (h2 _ (by omega) (by omega)) h1), size_congr (h2 _ (by omega) (by omega))]
  have da : τ 62 (f_X9_of (nI a) (2 : Int32)).toNatClampNeg = σ (24 + a) 2 := by rw [ofc2 (k := a) (by omega), h1]; exact (hy.d ha).2.2.2.1
  have db : τ 62 (f_X9_of (nI b) (2 : Int32)).toNatClampNeg = σ (24 + b) 2 := by rw [ofc2 (k := b) (by omega), h1]; exact (hy.d (k := b) (by omega)).2.2.2.1
  unfold f_X9_isAhead ahS f_X0_goesAhead f_X0_goesAhead_43
  rw [oc_ss, sa, sb, if_pos (ofi2 (k := a) (by omega)), if_pos (ofi2 (k := b) (by omega)), da, db, nI_clamp (n := a) (by omega), nI_clamp (n := b) (by omega), ob_s, ob_s, ob_s, ob_s]
  by_cases e : σ (24 + a) 2 = σ (24 + b) 2
  · rw [if_pos e, if_neg (show ¬ σ (24 + a) 2 < σ (24 + b) 2 by rw [e, i32_lt]; omega), if_pos e]
    by_cases es : f_X1_size (24 + a) σ = f_X1_size (24 + b) σ
    · rw [if_pos es, if_pos (nI_le (Nat.le_of_lt hb) (by omega)), if_pos (show f_X1_size (24 + a) σ ≤ f_X1_size (24 + b) σ by rw [es, i32_le]; omega)]
    · rw [if_neg es]
      by_cases hc : f_X1_size (24 + a) σ ≤ f_X1_size (24 + b) σ
      · rw [if_pos hc, if_pos hc]
      · rw [if_neg hc, if_neg hc]
  · rw [if_neg e, if_pos (ofi2 (k := a) (by omega)), if_pos (ofi2 (k := b) (by omega))]
    by_cases hc : σ (24 + b) 2 ≤ σ (24 + a) 2
    · rw [if_pos hc, if_neg (fun q => absurd hc (le_nlt.mpr q)), if_neg e]
    · rw [if_neg hc, if_pos (le_nlt.mp hc)]
theorem put_r {σ : St} {n x : Nat} (hy : YR σ 21 62 n) (hx : x < n) (rec7 : Int32 → St → Option St) : ∀ (v f : Nat) (τ : St), v < f → v < 10 → τ 62 = σ 62 → (∀ i : Nat, 24 ≤ i → i < 34 → τ i = σ i) → (∀ j : Nat, j < v → ∃ q : Nat, q < x ∧ τ 66 j = nI q) → ∃ ρ, f_X9_prints_36 rec7 f (nI x) (nI v) τ = rec7 (nI (x + 1)) ρ ∧ ρ 66 = insS (ahS σ) (nI x) v (τ 66) ∧ ρ 61 = upd (τ 61) 7 (τ 61 7 + 1) ∧ ∀ i : Nat, i ≠ 61 → i ≠ 66 → ρ i = τ i := by
  have hn := hy.1
  intro v
  induction v with
  | zero =>
    intro f τ hf hv h0 h1 h2
    obtain ⟨f, rfl⟩ : ∃ g, f = g + 1 := ⟨f - 1, by omega⟩
    rw [f_X9_prints_36_s, if_pos (show nI 0 ≤ 0 by decide), f_X9_prints_76_e, if_pos (inb_nI (by decide) (by decide)), f_X9_prints_93_e, nI_1, up_n (show (61 : Nat) ≠ 66 by decide)]
    exact ⟨_, rfl, by rw [up_n (by decide), up_s]; rfl, by rw [up_s, up_n (by decide)], fun i hi hj => by rw [up_n hi, up_n hj]⟩
  | succ v ih =>
    intro f τ hf hv h0 h1 h2
    obtain ⟨f, rfl⟩ : ∃ g, f = g + 1 := ⟨f - 1, by omega⟩
    obtain ⟨q, hq, eq⟩ := h2 v (by omega)
    have eq2 : τ 66 (nI v).toNatClampNeg = nI q := by rw [nI_clamp (n := v) (by omega), eq]
    rw [f_X9_prints_36_s, if_neg (nI_nle (by omega) (by omega)), nI_pred, if_pos (inb_nI (k := v) (by omega) (by decide)), eq2, ahead_r hy hx hq h0 h1, ob_s]
    by_cases hc : ahS σ (nI x) (nI q) = true
    · rw [if_pos hc, if_pos (inb_nI (k := v) (by omega) (by decide)), if_pos (inb_nI hv (by decide)), nI_clamp (n := v + 1) (by omega), pk_m1]
      obtain ⟨ρ, r1, r2, r3, r4⟩ := ih f (up τ 66 (v + 1) (nI q)) (by omega) (by omega) (by rw [up_n (by decide), h0]) (fun i hi hj => by rw [up_n (by omega), h1 i hi hj]) (fun j hj => by
        rw [up_s, pk_un (by omega)]
        exact h2 j (by omega))
      refine ⟨ρ, r1, ?_, ?_, fun i hi hj => by rw [r4 i hi hj, up_n hj]⟩
      · rw [r2, ins_s, eq, if_pos hc, up_s]
      · rw [r3, up_n (by decide)]
    · rw [if_neg hc, f_X9_prints_76_e, if_pos (inb_nI hv (by decide)), nI_clamp (n := v + 1) (by omega), f_X9_prints_93_e, nI_1, up_n (show (61 : Nat) ≠ 66 by decide)]
      exact ⟨_, rfl, by rw [up_n (by decide), up_s, ins_s, eq, if_neg hc], by rw [up_s, up_n (by decide)], fun i hi hj => by rw [up_n hi, up_n hj]⟩
/-- what print leaves as it was, in the reference -/
def Pk (σ τ : St) : Prop := (∀ i : Nat, i ≠ 61 → i ≠ 66 → i ≠ 67 → τ i = σ i) ∧ ∀ j : Nat, j ≠ 7 → j ≠ 8 → τ 61 j = σ 61 j
theorem break_r {σ : St} {n m : Nat} {o : Nat → Int32} (hy : YR σ 21 62 n) (hm : m ≤ 10) (ho : ∀ j : Nat, j < m → ∃ q : Nat, q < n ∧ o j = nI q) : ∀ (d f j : Nat) (τ : St), j + d = m → d < f → Pk σ τ → τ 66 = o → τ 61 7 = nI m → τ 61 8 = (if m = 0 then 0 else (pgS σ o j).2) → (∀ k : Nat, k < j → τ 67 k = (pgS σ o (k + 1)).2 - 1) → ∃ ρ, f_X9_prints_119 f (pgS σ o j).1 (nI j) τ = some ρ ∧ Pk σ ρ ∧ ρ 66 = o ∧ ρ 61 7 = nI m ∧ ρ 61 8 = pcS σ o m ∧ ∀ k : Nat, k < m → ρ 67 k = (pgS σ o (k + 1)).2 - 1 := by
  have hn := hy.1
  intro d
  induction d with
  | zero =>
    intro f j τ hj hf h1 h2 h3 h4 h6
    obtain ⟨f, rfl⟩ : ∃ g, f = g + 1 := ⟨f - 1, by omega⟩
    obtain rfl : j = m := by omega
    rw [f_X9_prints_119_s, h3, if_pos (nI_le (Nat.le_refl j) (by omega))]
    exact ⟨τ, rfl, h1, h2, h3, h4, h6⟩
  | succ d ih =>
    intro f j τ hj hf h1 h2 h3 h4 h6
    obtain ⟨f, rfl⟩ : ∃ g, f = g + 1 := ⟨f - 1, by omega⟩
    obtain ⟨q, hq, eq⟩ := ho j (by omega)
    have e24 : τ (24 + q) = σ (24 + q) := h1.1 _ (by omega) (by omega) (by omega)
    have ez : f_X9_sizeOf 62 (nI q) τ = some (f_X1_size (24 + (o j).toNatClampNeg) σ) := by
      rw [eq, nI_clamp (n := q) (by omega), sizeOf_rel (σ := τ) (i := 24 + q) (by omega) ((hy.d hq).1.congr e24) ((hy.d hq).2.congr e24 (h1.1 62 (by decide) (by decide) (by decide))), size_congr e24]
    have h66 : τ 66 j = nI q := by rw [h2, eq]
    have h4' : τ 61 8 = (pgS σ o j).2 := by rw [h4]; exact if_neg (by omega)
    rw [f_X9_prints_119_s, h3, if_neg (nI_ge (a := j) (b := m) (by omega) (by omega)), if_pos (inb_nI (k := j) (by omega) (by decide)), nI_clamp (n := j) (by omega), h66, ez, ob_s]
    have new : ∀ (τ' : St), Pk σ τ' → τ' 66 = o → τ' 61 7 = nI m → τ' 61 8 = (pgS σ o (j + 1)).2 → (∀ k : Nat, k < j → τ' 67 k = (pgS σ o (k + 1)).2 - 1) → ∀ b : Int32, b + f_X1_size (24 + (o j).toNatClampNeg) σ = (pgS σ o (j + 1)).1 → ∃ ρ, f_X9_prints_161 (f_X9_prints_119 f) b (nI j) (f_X1_size (24 + (o j).toNatClampNeg) σ) τ' = some ρ ∧ Pk σ ρ ∧ ρ 66 = o ∧ ρ 61 7 = nI m ∧ ρ 61 8 = pcS σ o m ∧ ∀ k : Nat, k < m → ρ 67 k = (pgS σ o (k + 1)).2 - 1 := by
      intro τ' g1 g2 g3 g4 g6 b hb
      rw [f_X9_prints_161_e, if_pos (inb_nI (k := j) (by omega) (by decide)), nI_1, nI_clamp (n := j) (by omega), g4, hb]
      refine ih f (j + 1) _ (by omega) (by omega) ⟨fun i a1 a2 a3 => by rw [up_n a3, g1.1 i a1 a2 a3], fun i a1 a2 => by rw [up_n (by decide), g1.2 i a1 a2]⟩ (by rw [up_n (by decide), g2]) (by rw [up_n (by decide), g3]) (by rw [up_n (by decide), g4]; exact (if_neg (by omega)).symm) (fun k hk => ?_)
      rw [up_s]
      by_cases hkj : k = j
      · rw [hkj, pk_us]
      · rw [pk_un hkj, g6 k (by omega)]
    by_cases hc : (pgS σ o j).1 + f_X1_size (24 + (o j).toNatClampNeg) σ ≤ 30
    · have ep : pgS σ o (j + 1) = ((pgS σ o j).1 + f_X1_size (24 + (o j).toNatClampNeg) σ, (pgS σ o j).2) := by
        rw [pg_s]; exact if_pos hc
      rw [if_pos hc]
      exact new τ h1 h2 h3 (by rw [h4', ep]) h6 _ (by rw [ep])
    · have ep : pgS σ o (j + 1) = ((0 : Int32) + f_X1_size (24 + (o j).toNatClampNeg) σ, (pgS σ o j).2 + 1) := by
        rw [pg_s]; exact if_neg hc
      rw [if_neg hc, h4']
      exact new _ ⟨fun i a1 a2 a3 => by rw [up_n a1, h1.1 i a1 a2 a3], fun i a1 a2 => by rw [up_s, pk_un a2, h1.2 i a1 a2]⟩ (by rw [up_n (by decide), h2]) (by rw [up_s, pk_un (by decide), h3]) (by rw [up_s, pk_us, ep]) (fun k hk => by rw [up_n (by decide), h6 k hk]) 0 (by rw [ep])
/-- the reference's print -/
theorem print_r {σ : St} {n : Nat} (hy : YR σ 21 62 n) : ∃ ρ, f_X9_prints σ = some ρ ∧ Pk σ ρ ∧ ρ 66 = (srtS σ (σ 66) n).1 ∧ ρ 61 7 = nI (srtS σ (σ 66) n).2 ∧ ρ 61 8 = pcS σ (srtS σ (σ 66) n).1 (srtS σ (σ 66) n).2 ∧ ∀ k : Nat, k < (srtS σ (σ 66) n).2 → ρ 67 k = (pgS σ (srtS σ (σ 66) n).1 (k + 1)).2 - 1 := by
  have hn := hy.1
  refine loop_j (fun f τ k => f_X9_prints_7 f (nI k) τ) (fun k τ => Pk σ τ ∧ τ 66 = (srtS σ (σ 66) k).1 ∧ τ 61 7 = nI (srtS σ (σ 66) k).2) (fun b => ∃ ρ, b = some ρ ∧ Pk σ ρ ∧ ρ 66 = (srtS σ (σ 66) n).1 ∧ ρ 61 7 = nI (srtS σ (σ 66) n).2 ∧ ρ 61 8 = pcS σ (srtS σ (σ 66) n).1 (srtS σ (σ 66) n).2 ∧ ∀ k : Nat, k < (srtS σ (σ 66) n).2 → ρ 67 k = (pgS σ (srtS σ (σ 66) n).1 (k + 1)).2 - 1) n ?_ ?_ fu (up σ 61 7 0) ⟨⟨fun i a1 a2 a3 => by rw [up_n a1], fun j a1 a2 => by rw [up_s, pk_un a1]⟩, by rw [up_n (by decide), srt_0], by rw [up_s, pk_us, srt_0]; rfl⟩ (fu_gt (by omega))
  · intro f k τ hk ⟨i1, i2, i3⟩
    have e62 : τ 62 = σ 62 := i1.1 62 (by decide) (by decide) (by decide)
    have hle := srt_le (σ := σ) (o := σ 66) k
    have et : f_X9_isTold 62 (nI k) τ = some (toldS σ 21 k) := by
      rw [← told_rS hy hk, told_r (by omega), told_r (by omega), e62]
    show ∃ a', _ ∧ f_X9_prints_7 (f + 1) (nI k) τ = f_X9_prints_7 f (nI (k + 1)) a'
    rw [f_X9_prints_7_s, e62, hy.2.2.1, if_neg (nI_ge hk (by omega)), et, ob_s]
    by_cases ht : toldS σ 21 k = true
    · have es : srtS σ (σ 66) (k + 1) = (insS (ahS σ) (nI k) (srtS σ (σ 66) k).2 (srtS σ (σ 66) k).1, (srtS σ (σ 66) k).2 + 1) := by rw [srt_s]; exact if_pos ht
      obtain ⟨ρ, r1, r2, r3, r4⟩ := put_r (x := k) hy hk (f_X9_prints_7 f) (srtS σ (σ 66) k).2 fu τ (fu_gt (by omega)) (by omega) e62 (fun i h1 h2 => i1.1 i (by omega) (by omega) (by omega)) (fun j hj => by
        obtain ⟨q, hq, eq, -⟩ := srt_in k j hj
        exact ⟨q, by omega, by rw [i2, eq]⟩)
      rw [if_pos ht, i3, r1]
      refine ⟨ρ, ⟨⟨fun i a1 a2 a3 => by rw [r4 i a1 a2, i1.1 i a1 a2 a3], fun j a1 a2 => by rw [r3, pk_un a1, i1.2 j a1 a2]⟩, by rw [r2, i2, es], ?_⟩, rfl⟩
      rw [r3, pk_us, i3, nI_1, es]
    · have es : srtS σ (σ 66) (k + 1) = srtS σ (σ 66) k := by rw [srt_s]; exact if_neg ht
      rw [if_neg ht, f_X9_prints_93_e, nI_1, es]
      exact ⟨τ, ⟨i1, i2, i3⟩, rfl⟩
  · intro f τ ⟨i1, i2, i3⟩
    have e62 : τ 62 = σ 62 := i1.1 62 (by decide) (by decide) (by decide)
    have hle := srt_le (σ := σ) (o := σ 66) n
    show ∃ ρ, f_X9_prints_7 (f + 1) (nI n) τ = some ρ ∧ _
    rw [f_X9_prints_7_s, e62, hy.2.2.1, if_pos (nI_le (Nat.le_refl n) (by omega)), i3]
    have fin : ∀ z : Int32, z = (if (srtS σ (σ 66) n).2 = 0 then 0 else 1) → ∃ ρ, f_X9_prints_119 fu 0 0 (up τ 61 8 z) = some ρ ∧ Pk σ ρ ∧ ρ 66 = (srtS σ (σ 66) n).1 ∧ ρ 61 7 = nI (srtS σ (σ 66) n).2 ∧ ρ 61 8 = pcS σ (srtS σ (σ 66) n).1 (srtS σ (σ 66) n).2 ∧ ∀ k : Nat, k < (srtS σ (σ 66) n).2 → ρ 67 k = (pgS σ (srtS σ (σ 66) n).1 (k + 1)).2 - 1 := by
      intro z hz
      exact break_r (o := (srtS σ (σ 66) n).1) (m := (srtS σ (σ 66) n).2) hy (by omega) (fun j hj => by
        obtain ⟨q, hq, eq, -⟩ := srt_in n j hj
        exact ⟨q, hq, eq⟩) (srtS σ (σ 66) n).2 fu 0 (up τ 61 8 z) (by omega) (fu_gt (by omega)) ⟨fun i a1 a2 a3 => by rw [up_n a1, i1.1 i a1 a2 a3], fun j a1 a2 => by rw [up_s, pk_un a2, i1.2 j a1 a2]⟩ (by rw [up_n (by decide), i2]) (by rw [up_s, pk_un (by decide), i3]) (by rw [up_s, pk_us, hz]; rfl) (fun k hk => absurd hk (Nat.not_lt_zero k))
    by_cases hm : (srtS σ (σ 66) n).2 = 0
    · rw [if_pos (by rw [hm]; decide), f_X9_prints_112_e]
      exact fin 0 (by rw [if_pos hm])
    · rw [if_neg (nI_nle (by omega) (by omega)), f_X9_prints_112_e]
      exact fin 1 (by rw [if_neg hm])
