/-! PURE: the almanac's print: the same order and the same pages on both sides -/
def insS (ah : Int32 → Int32 → Bool) (x : Int32) : Nat → (Nat → Int32) → (Nat → Int32)
  | 0, o => upd o 0 x
  | v + 1, o => if ah x (o v) = true then insS ah x v (upd o (v + 1) (o v)) else upd o (v + 1) x
theorem ins_s {ah : Int32 → Int32 → Bool} {x : Int32} {v : Nat} {o : Nat → Int32} : insS ah x (v + 1) o = if ah x (o v) = true then insS ah x v (upd o (v + 1) (o v)) else upd o (v + 1) x := rfl
/-- what lies above stays -/
theorem ins_hi {ah : Int32 → Int32 → Bool} {x : Int32} : ∀ (v : Nat) (o : Nat → Int32) (j : Nat), v < j → insS ah x v o j = o j
  | 0, o, j, h => pk_un (by omega)
  | v + 1, o, j, h => by
    rw [ins_s]
    split
    · rw [ins_hi v _ j (by omega), pk_un (by omega)]
    · exact pk_un (by omega)
theorem ins_agree {ah : Int32 → Int32 → Bool} {x : Int32} : ∀ (v : Nat) (o p : Nat → Int32), (∀ j : Nat, j < v → o j = p j) → ∀ j : Nat, j < v + 1 → insS ah x v o j = insS ah x v p j
  | 0, o, p, h, j, hj => by
    obtain rfl : j = 0 := by omega
    show upd o 0 x 0 = upd p 0 x 0
    rw [pk_us, pk_us]
  | v + 1, o, p, h, j, hj => by
    rw [ins_s, ins_s, h v (by omega)]
    split
    · by_cases hv : j < v + 1
      · exact ins_agree v _ _ (fun i hi => by rw [pk_un (by omega), pk_un (by omega), h i (by omega)]) j hv
      · rw [ins_hi v _ j (by omega), ins_hi v _ j (by omega)]
        obtain rfl : j = v + 1 := by omega
        rw [pk_us, pk_us]
    · by_cases hv : j = v + 1
      · rw [hv, pk_us, pk_us]
      · rw [pk_un hv, pk_un hv, h j (by omega)]
/-- any property of all entries and of the new one is one of all afterwards -/
theorem ins_all {ah : Int32 → Int32 → Bool} {x : Int32} {Q : Int32 → Prop} (hx : Q x) : ∀ (v : Nat) (o : Nat → Int32), (∀ j : Nat, j < v → Q (o j)) → ∀ j : Nat, j < v + 1 → Q (insS ah x v o j)
  | 0, o, h, j, hj => by
    obtain rfl : j = 0 := by omega
    show Q (upd o 0 x 0)
    rw [pk_us]; exact hx
  | v + 1, o, h, j, hj => by
    rw [ins_s]
    split
    · by_cases hv : j < v + 1
      · exact ins_all hx v _ (fun i hi => by rw [pk_un (by omega)]; exact h i (by omega)) j hv
      · rw [ins_hi v _ j (by omega)]
        obtain rfl : j = v + 1 := by omega
        rw [pk_us]; exact h v (by omega)
    · by_cases hv : j = v + 1
      · rw [hv, pk_us]; exact hx
      · rw [pk_un hv]; exact h j (by omega)
theorem lt10 {k : Nat} (h : k < 10) : nI k < (10 : Int32) := nI_lt (b := 10) h (by decide)
def ahS (σ : St) (x y : Int32) : Bool := f_X0_goesAhead (24 + x.toNatClampNeg) (some (24 + y.toNatClampNeg)) σ
def srtS (σ : St) (o : Nat → Int32) : Nat → (Nat → Int32) × Nat := lf (fun k a => if toldS σ 21 k = true then (insS (ahS σ) (nI k) a.2 a.1, a.2 + 1) else a) (o, 0)
theorem srt_0 {σ : St} {o : Nat → Int32} : srtS σ o 0 = (o, 0) := rfl
theorem srt_s {σ : St} {o : Nat → Int32} {k : Nat} : srtS σ o (k + 1) = if toldS σ 21 k = true then (insS (ahS σ) (nI k) (srtS σ o k).2 (srtS σ o k).1, (srtS σ o k).2 + 1) else srtS σ o k := rfl
theorem srt_le {σ : St} {o : Nat → Int32} : ∀ k : Nat, (srtS σ o k).2 ≤ k
  | 0 => Nat.le_refl 0
  | k + 1 => by
    have := srt_le (σ := σ) (o := o) k
    rw [srt_s]
    split
    · show (srtS σ o k).2 + 1 ≤ k + 1
      omega
    · omega
theorem srt_in {σ : St} {o : Nat → Int32} : ∀ k : Nat, ∀ j : Nat, j < (srtS σ o k).2 → ∃ q : Nat, q < k ∧ (srtS σ o k).1 j = nI q ∧ toldS σ 21 q = true
  | 0 => fun j hj => absurd hj (Nat.not_lt_zero j)
  | k + 1 => by
    intro j hj
    have ih := srt_in (σ := σ) (o := o) k
    rw [srt_s] at hj ⊢
    by_cases ht : toldS σ 21 k = true
    · rw [if_pos ht] at hj ⊢
      exact ins_all (Q := fun z => ∃ q : Nat, q < k + 1 ∧ z = nI q ∧ toldS σ 21 q = true) ⟨k, by omega, rfl, ht⟩ _ _ (fun i hi => by
        obtain ⟨q, h1, h2, h3⟩ := ih i hi
        exact ⟨q, by omega, h2, h3⟩) j hj
    · rw [if_neg ht] at hj ⊢
      obtain ⟨q, h1, h2, h3⟩ := ih j hj
      exact ⟨q, by omega, h2, h3⟩
theorem srt_agree {σ : St} {o p : Nat → Int32} : ∀ k : Nat, (srtS σ o k).2 = (srtS σ p k).2 ∧ ∀ j : Nat, j < (srtS σ o k).2 → (srtS σ o k).1 j = (srtS σ p k).1 j
  | 0 => ⟨rfl, fun j hj => absurd hj (Nat.not_lt_zero j)⟩
  | k + 1 => by
    obtain ⟨h1, h2⟩ := srt_agree (σ := σ) (o := o) (p := p) k
    rw [srt_s, srt_s]
    by_cases ht : toldS σ 21 k = true
    · rw [if_pos ht, if_pos ht, ← h1]
      exact ⟨rfl, fun j hj => ins_agree _ _ _ h2 j hj⟩
    · rw [if_neg ht, if_neg ht]
      exact ⟨h1, h2⟩
theorem go_congr {σ τ : St} {i j : Nat} (h1 : τ i = σ i) (h2 : τ j = σ j) : f_X0_goesAhead i (some j) τ = f_X0_goesAhead i (some j) σ := by
  unfold f_X0_goesAhead f_X1_size f_X0_goesAhead_43
  rw [oc_ss, oc_ss, h1, h2]
theorem numberIn_eq {τ : St} {j m : Nat} (hm : m ≤ 10) (h : τ 18 3 = nI m) (hj : j < m) : f_X0_numberIn (nI j) τ = some (τ 19 j) := by
  unfold f_X0_numberIn
  rw [if_neg (nI_n0 (by omega)), h, if_neg (nI_ge hj (by omega)), if_neg (ge10 (k := j) (by omega)), if_pos (inb_nI (by omega) (by decide)), nI_clamp (n := j) (by omega)]
theorem numberIn_end {τ : St} {m : Nat} (hm : m ≤ 10) (h : τ 18 3 = nI m) : f_X0_numberIn (nI m) τ = some (-4) := by
  unfold f_X0_numberIn
  rw [if_neg (nI_n0 (by omega)), h, if_pos (nI_le (Nat.le_refl m) (by omega))]
theorem pageIn_eq {τ : St} {j m : Nat} (hm : m ≤ 10) (h : τ 18 3 = nI m) (hj : j < m) : f_X0_pageIn (nI j) τ = some (τ 20 j) := by
  unfold f_X0_pageIn
  rw [if_neg (nI_n0 (by omega)), h, if_neg (nI_ge hj (by omega)), if_neg (ge10 (k := j) (by omega)), if_pos (inb_nI (by omega) (by decide)), nI_clamp (n := j) (by omega)]
theorem pageIn_m4 {τ : St} : f_X0_pageIn (-4) τ = some (-4) := by
  unfold f_X0_pageIn
  rw [if_pos (by decide)]
theorem deedIn_of {τ : St} {x : Int32} {q n : Nat} (hx : f_X0_numberIn x τ = some (nI q)) (hn : n ≤ 10) (h : τ 21 2 = nI n) (hq : q < n) : f_X0_deedIn x τ = some (some (24 + q)) := by
  unfold f_X0_deedIn
  rw [hx, ob_s, deedAt_y hn h hq, ob_s, oc_ss]
theorem deedIn_eq {τ : St} {j q m n : Nat} (hm : m ≤ 10) (h3 : τ 18 3 = nI m) (hj : j < m) (hn : n ≤ 10) (h2 : τ 21 2 = nI n) (hq : q < n) (h : τ 19 j = nI q) : f_X0_deedIn (nI j) τ = some (some (24 + q)) := deedIn_of (by rw [numberIn_eq hm h3 hj, h]) hn h2 hq
theorem deedAt_m4 {y : Nat} {τ : St} : f_X7_deedAt y (-4) τ = some none := by
  unfold f_X7_deedAt
  rw [if_pos (by decide)]
theorem deedIn_end {τ : St} {m : Nat} (hm : m ≤ 10) (h : τ 18 3 = nI m) : f_X0_deedIn (nI m) τ = some none := by
  unfold f_X0_deedIn
  rw [numberIn_end hm h, ob_s, deedAt_m4, ob_s, oc_nn]
theorem putin_c {σ : St} {x m n : Nat} (hx : x < 10) (hm : m ≤ 10) (hn : n ≤ 10) : ∀ (v f : Nat) (τ : St), v < f → v < 10 → v ≤ m → τ 18 3 = nI m → τ 21 2 = nI n → (∀ i : Nat, 24 ≤ i → i < 34 → τ i = σ i) → (∀ j : Nat, j < v → ∃ q : Nat, q < n ∧ τ 19 j = nI q) → ∃ ρ, f_X0_setIn_18 (nI x) (21 + 1 + 2 + x) f (nI v) τ = some ρ ∧ ρ 19 = insS (ahS σ) (nI x) v (τ 19) ∧ ρ 18 = upd (τ 18) 3 (τ 18 3 + 1) ∧ ∀ i : Nat, i ≠ 18 → i ≠ 19 → ρ i = τ i := by
  intro v
  induction v with
  | zero =>
    intro f τ hf hv hvm h3 h4 h1 h2
    obtain ⟨f, rfl⟩ : ∃ g, f = g + 1 := ⟨f - 1, by omega⟩
    rw [f_X0_setIn_18_s, if_pos (show nI 0 ≤ 0 by decide), f_X0_setIn_56_e, if_pos (inb_nI (by decide) (by decide)), up_n (show (18 : Nat) ≠ 19 by decide)]
    exact ⟨_, rfl, by rw [up_n (by decide), up_s]; rfl, by rw [up_s, up_n (by decide)], fun i hi hj => by rw [up_n hi, up_n hj]⟩
  | succ v ih =>
    intro f τ hf hv hvm h3 h4 h1 h2
    obtain ⟨f, rfl⟩ : ∃ g, f = g + 1 := ⟨f - 1, by omega⟩
    obtain ⟨q, hq, eq⟩ := h2 v (by omega)
    have ed : f_X0_deedIn (nI v) τ = some (some (24 + q)) := deedIn_eq hm h3 (by omega) hn h4 hq eq
    rw [f_X0_setIn_18_s, if_neg (nI_nle (by omega) (by omega)), nI_pred, ed, ob_s, oc_ss]
    have ea : f_X0_goesAhead (21 + 1 + 2 + x) (some (24 + q)) τ = ahS σ (nI x) (τ 19 v) := by
      unfold ahS
      rw [eq, nI_clamp (n := x) (by omega), nI_clamp (n := q) (by omega)]
      exact go_congr (h1 _ (by omega) (by omega)) (h1 _ (by omega) (by omega))
    rw [ea]
    by_cases hc : ahS σ (nI x) (τ 19 v) = true
    · rw [if_pos hc, if_pos (inb_nI (by omega) (by decide)), if_pos (inb_nI hv (by decide)), nI_clamp (n := v) (by omega), nI_clamp (n := v + 1) (by omega), pk_m1]
      obtain ⟨ρ, r1, r2, r3, r4⟩ := ih f (up τ 19 (v + 1) (τ 19 v)) (by omega) (by omega) (by omega) (by rw [up_n (by decide), h3]) (by rw [up_n (by decide), h4]) (fun i hi hj => by rw [up_n (by omega), h1 i hi hj]) (fun j hj => by
        rw [up_s, pk_un (by omega)]
        exact h2 j (by omega))
      refine ⟨ρ, r1, ?_, ?_, fun i hi hj => by rw [r4 i hi hj, up_n hj]⟩
      · rw [r2, ins_s, if_pos hc, up_s]
      · rw [r3, up_n (by decide)]
    · rw [if_neg hc, f_X0_setIn_56_e, if_pos (inb_nI hv (by decide)), nI_clamp (n := v + 1) (by omega), up_n (show (18 : Nat) ≠ 19 by decide)]
      exact ⟨_, rfl, by rw [up_n (by decide), up_s, ins_s, if_neg hc], by rw [up_s, up_n (by decide)], fun i hi hj => by rw [up_n hi, up_n hj]⟩
/-- pages: points on the page, and how many pages -/
def pgS (σ : St) (o : Nat → Int32) : Nat → Int32 × Int32 := lf (fun j a => if a.1 + f_X1_size (24 + (o j).toNatClampNeg) σ ≤ 30 then (a.1 + f_X1_size (24 + (o j).toNatClampNeg) σ, a.2) else ((0 : Int32) + f_X1_size (24 + (o j).toNatClampNeg) σ, a.2 + 1)) ((0 : Int32), (1 : Int32))
theorem pg_0 {σ : St} {o : Nat → Int32} : pgS σ o 0 = ((0 : Int32), (1 : Int32)) := rfl
theorem pg_s {σ : St} {o : Nat → Int32} {j : Nat} : pgS σ o (j + 1) = if (pgS σ o j).1 + f_X1_size (24 + (o j).toNatClampNeg) σ ≤ 30 then ((pgS σ o j).1 + f_X1_size (24 + (o j).toNatClampNeg) σ, (pgS σ o j).2) else ((0 : Int32) + f_X1_size (24 + (o j).toNatClampNeg) σ, (pgS σ o j).2 + 1) := rfl
theorem pg_agree {σ : St} {o p : Nat → Int32} : ∀ m : Nat, (∀ j : Nat, j < m → o j = p j) → pgS σ o m = pgS σ p m
  | 0, _ => pg_0.trans pg_0.symm
  | m + 1, h => by rw [pg_s, pg_s, pg_agree m (fun j hj => h j (by omega)), h m (by omega)]
theorem size_30 : ∀ a : Nat, a < 8 → ∀ b : Nat, b < 10 → (0 : Int32) + f_X4_size (nI a) (nI b) ≤ 30 := by decide +kernel
theorem DOk.s30 {σ : St} {i : Nat} (h : DOk σ i) : (0 : Int32) + f_X1_size i σ ≤ 30 := by
  obtain ⟨a, b, d, w, s, ha, hb, hd, hw, hs, ht, e0, e1, -⟩ := h
  unfold f_X1_size
  rw [e0, e1]
  exact size_30 a ha b hb
theorem size_congr {σ τ : St} {i : Nat} (h : τ i = σ i) : f_X1_size i τ = f_X1_size i σ := by unfold f_X1_size; rw [h]
/-- how many pages -/
def pcS (σ : St) (o : Nat → Int32) (m : Nat) : Int32 := if m = 0 then 0 else (pgS σ o m).2
theorem break_c {σ : St} {n m : Nat} {o : Nat → Int32} (hy : YR σ 21 62 n) (hm : m ≤ 10) (ho : ∀ j : Nat, j < m → ∃ q : Nat, q < n ∧ o j = nI q) : ∀ (d f j : Nat) (a : Int32) (τ : St), j + d = m → d < f → (∀ i : Nat, i ≠ 18 → i ≠ 19 → i ≠ 20 → τ i = σ i) → τ 19 = o → τ 18 3 = nI m → τ 18 4 = pcS σ o j → (j ≠ 0 → a = (pgS σ o j).1) → (∀ k : Nat, k < j → τ 20 k = (pgS σ o (k + 1)).2 - 1) → ∃ ρ, f_X0_breakPages_9 f a (nI j) τ = some ρ ∧ (∀ i : Nat, i ≠ 18 → i ≠ 19 → i ≠ 20 → ρ i = σ i) ∧ ρ 19 = o ∧ ρ 18 3 = nI m ∧ ρ 18 4 = pcS σ o m ∧ ∀ k : Nat, k < m → ρ 20 k = (pgS σ o (k + 1)).2 - 1 := by
  have hn := hy.1
  intro d
  induction d with
  | zero =>
    intro f j a τ hj hf h1 h2 h3 h4 h5 h6
    obtain ⟨f, rfl⟩ : ∃ g, f = g + 1 := ⟨f - 1, by omega⟩
    obtain rfl : j = m := by omega
    rw [f_X0_breakPages_9_s, h3, if_pos (nI_le (Nat.le_refl j) (by omega))]
    exact ⟨τ, rfl, h1, h2, h3, h4, h6⟩
  | succ d ih =>
    intro f j a τ hj hf h1 h2 h3 h4 h5 h6
    obtain ⟨f, rfl⟩ : ∃ g, f = g + 1 := ⟨f - 1, by omega⟩
    obtain ⟨q, hq, eq⟩ := ho j (by omega)
    have ez : f_X1_size (24 + q) τ = f_X1_size (24 + (o j).toNatClampNeg) σ := by
      rw [eq, nI_clamp (n := q) (by omega)]
      exact size_congr (h1 _ (by omega) (by omega) (by omega))
    have hs30 : (0 : Int32) + f_X1_size (24 + (o j).toNatClampNeg) σ ≤ 30 := by
      rw [eq, nI_clamp (n := q) (by omega)]
      exact (hy.d hq).1.s30
    have hpc : pcS σ o (j + 1) = (pgS σ o (j + 1)).2 := if_neg (by omega)
    have h21 : τ 21 2 = nI n := by rw [h1 21 (by decide) (by decide) (by decide)]; exact hy.2.1
    rw [f_X0_breakPages_9_s, deedIn_eq (j := j) (q := q) hm h3 (by omega) hn h21 hq (by rw [h2, eq]), h3, if_neg (nI_ge (a := j) (b := m) (by omega) (by omega)), if_neg (ge10 (k := j) (by omega)), ob_s, oc_ss, ez, f_X0_breakPages_44_e]
    have new : ∀ (τ' : St), (∀ i : Nat, i ≠ 18 → i ≠ 19 → i ≠ 20 → τ' i = σ i) → τ' 19 = o → τ' 18 3 = nI m → τ' 18 4 = (pgS σ o (j + 1)).2 → (∀ k : Nat, k < j → τ' 20 k = (pgS σ o (k + 1)).2 - 1) → ∀ b : Int32, b + f_X1_size (24 + (o j).toNatClampNeg) σ = (pgS σ o (j + 1)).1 → ∃ ρ, f_X0_breakPages_71 (f_X0_breakPages_9 f) b (nI j) (f_X1_size (24 + (o j).toNatClampNeg) σ) τ' = some ρ ∧ (∀ i : Nat, i ≠ 18 → i ≠ 19 → i ≠ 20 → ρ i = σ i) ∧ ρ 19 = o ∧ ρ 18 3 = nI m ∧ ρ 18 4 = pcS σ o m ∧ ∀ k : Nat, k < m → ρ 20 k = (pgS σ o (k + 1)).2 - 1 := by
      intro τ' g1 g2 g3 g4 g6 b hb
      rw [f_X0_breakPages_71_e, if_pos (inb_nI (k := j) (by omega) (by decide)), nI_1, nI_clamp (n := j) (by omega), g4]
      refine ih f (j + 1) _ _ (by omega) (by omega) (fun i a1 a2 a3 => by rw [up_n a3, g1 i a1 a2 a3]) (by rw [up_n (by decide), g2]) (by rw [up_n (by decide), g3]) (by rw [up_n (by decide), g4, hpc]) (fun _ => hb) (fun k hk => ?_)
      rw [up_s]
      by_cases hkj : k = j
      · rw [hkj, pk_us]
      · rw [pk_un hkj, g6 k (by omega)]
    by_cases hj0 : j = 0
    · subst hj0
      have ep : pgS σ o (0 + 1) = ((0 : Int32) + f_X1_size (24 + (o 0).toNatClampNeg) σ, (1 : Int32)) := by
        rw [pg_s, pg_0]
        exact if_pos hs30
      rw [if_pos (show nI 0 = 0 from rfl), f_X0_breakPages_59_e, h4]
      refine new _ (fun i a1 a2 a3 => by rw [up_n a1, h1 i a1 a2 a3]) (by rw [up_n (by decide), h2]) (by rw [up_s, pk_un (by decide), h3]) (by rw [up_s, pk_us, ep]; rfl) (fun k hk => absurd hk (Nat.not_lt_zero k)) 0 (by rw [ep])
    · rw [if_neg (nI_ne0 (by omega) (by omega)), h5 hj0]
      have h4' : τ 18 4 = (pgS σ o j).2 := by rw [h4]; exact if_neg hj0
      by_cases hc : (pgS σ o j).1 + f_X1_size (24 + (o j).toNatClampNeg) σ ≤ 30
      · have ep : pgS σ o (j + 1) = ((pgS σ o j).1 + f_X1_size (24 + (o j).toNatClampNeg) σ, (pgS σ o j).2) := by
          rw [pg_s]; exact if_pos hc
        rw [if_pos hc]
        exact new τ h1 h2 h3 (by rw [h4', ep]) h6 _ (by rw [ep])
      · have ep : pgS σ o (j + 1) = ((0 : Int32) + f_X1_size (24 + (o j).toNatClampNeg) σ, (pgS σ o j).2 + 1) := by
          rw [pg_s]; exact if_neg hc
        rw [if_neg hc, f_X0_breakPages_59_e, h4']
        exact new _ (fun i a1 a2 a3 => by rw [up_n a1, h1 i a1 a2 a3]) (by rw [up_n (by decide), h2]) (by rw [up_s, pk_un (by decide), h3]) (by rw [up_s, pk_us, ep]) (fun k hk => by rw [up_n (by decide), h6 k hk]) 0 (by rw [ep])
/-- the class's print -/
theorem print_c {σ : St} {n : Nat} (hy : YR σ 21 62 n) : ∃ ρ, f_X0_print σ = some ρ ∧ (∀ i : Nat, i ≠ 18 → i ≠ 19 → i ≠ 20 → ρ i = σ i) ∧ ρ 19 = (srtS σ (σ 19) n).1 ∧ ρ 18 3 = nI (srtS σ (σ 19) n).2 ∧ ρ 18 4 = pcS σ (srtS σ (σ 19) n).1 (srtS σ (σ 19) n).2 ∧ ∀ k : Nat, k < (srtS σ (σ 19) n).2 → ρ 20 k = (pgS σ (srtS σ (σ 19) n).1 (k + 1)).2 - 1 := by
  have hn := hy.1
  refine loop_j (fun f τ k => f_X0_print_7 f (nI k) τ) (fun k τ => (∀ i : Nat, i ≠ 18 → i ≠ 19 → i ≠ 20 → τ i = σ i) ∧ τ 19 = (srtS σ (σ 19) k).1 ∧ τ 18 3 = nI (srtS σ (σ 19) k).2) (fun b => ∃ ρ, b = some ρ ∧ (∀ i : Nat, i ≠ 18 → i ≠ 19 → i ≠ 20 → ρ i = σ i) ∧ ρ 19 = (srtS σ (σ 19) n).1 ∧ ρ 18 3 = nI (srtS σ (σ 19) n).2 ∧ ρ 18 4 = pcS σ (srtS σ (σ 19) n).1 (srtS σ (σ 19) n).2 ∧ ∀ k : Nat, k < (srtS σ (σ 19) n).2 → ρ 20 k = (pgS σ (srtS σ (σ 19) n).1 (k + 1)).2 - 1) n ?_ ?_ fu (up σ 18 3 0) ⟨fun i a1 a2 a3 => by rw [up_n a1], by rw [up_n (by decide), srt_0], by rw [up_s, pk_us, srt_0]; rfl⟩ (fu_gt (by omega))
  · intro f k τ hk ⟨i1, i2, i3⟩
    have et : toldS τ 21 k = toldS σ 21 k := by unfold toldS; rw [i1 21 (by decide) (by decide) (by decide), i1 (21 + 1 + 2 + k) (by omega) (by omega) (by omega)]
    have hle := srt_le (σ := σ) (o := σ 19) k
    show ∃ a', _ ∧ f_X0_print_7 (f + 1) (nI k) τ = f_X0_print_7 f (nI (k + 1)) a'
    have h21 : τ 21 2 = nI n := by rw [i1 21 (by decide) (by decide) (by decide)]; exact hy.2.1
    rw [f_X0_print_7_s]
    by_cases ht : toldS σ 21 k = true
    · have es : srtS σ (σ 19) (k + 1) = (insS (ahS σ) (nI k) (srtS σ (σ 19) k).2 (srtS σ (σ 19) k).1, (srtS σ (σ 19) k).2 + 1) := by rw [srt_s]; exact if_pos ht
      obtain ⟨ρ, r1, r2, r3, r4⟩ := putin_c (σ := σ) (x := k) (m := (srtS σ (σ 19) k).2) (n := n) (by omega) (by omega) hn (srtS σ (σ 19) k).2 fu τ (fu_gt (by omega)) (by omega) (Nat.le_refl _) i3 h21 (fun i h1 h2 => i1 i (by omega) (by omega) (by omega)) (fun j hj => by
        obtain ⟨q, hq, eq, -⟩ := srt_in k j hj
        exact ⟨q, by omega, by rw [i2, eq]⟩)
      have r1' : f_X0_setIn (nI k) (21 + 1 + 2 + k) τ = some ρ := by
        unfold f_X0_setIn
        rw [i3, if_pos (lt10 (by omega))]
        exact r1
      rw [toldAt_t hn h21 hk (et.trans ht), h21, if_neg (nI_ge hk (by omega)), ob_s, oc_ss, r1', ob_s, f_X0_print_37_e, nI_1]
      refine ⟨ρ, ⟨fun i a1 a2 a3 => by rw [r4 i a1 a2, i1 i a1 a2 a3], by rw [r2, i2, es], ?_⟩, rfl⟩
      rw [r3, pk_us, i3, nI_1, es]
    · have es : srtS σ (σ 19) (k + 1) = srtS σ (σ 19) k := by rw [srt_s]; exact if_neg ht
      rw [toldAt_f hn h21 hk (fun q => ht (et.symm.trans q)), h21, if_neg (nI_ge hk (by omega)), ob_s, oc_nn, f_X0_print_37_e, nI_1, es]
      exact ⟨τ, ⟨i1, i2, i3⟩, rfl⟩
  · intro f τ ⟨i1, i2, i3⟩
    have hle := srt_le (σ := σ) (o := σ 19) n
    show ∃ ρ, f_X0_print_7 (f + 1) (nI n) τ = some ρ ∧ _
    rw [f_X0_print_7_s, i1 21 (by decide) (by decide) (by decide), hy.2.1, if_pos (nI_le (Nat.le_refl n) (by omega))]
    obtain ⟨ρ, r1, r2⟩ := break_c (o := (srtS σ (σ 19) n).1) (m := (srtS σ (σ 19) n).2) hy (by omega) (fun j hj => by
      obtain ⟨q, hq, eq, -⟩ := srt_in n j hj
      exact ⟨q, hq, eq⟩) (srtS σ (σ 19) n).2 fu 0 0 (up τ 18 4 0) (by omega) (fu_gt (by omega)) (fun i a1 a2 a3 => by rw [up_n a1, i1 i a1 a2 a3]) (by rw [up_n (by decide), i2]) (by rw [up_s, pk_un (by decide), i3]) (by rw [up_s, pk_us]; rfl) (fun h => absurd rfl h) (fun k hk => absurd hk (Nat.not_lt_zero k))
    have r1' : f_X0_breakPages τ = some ρ := r1
    rw [r1', ob_s]
    exact ⟨ρ, rfl, r2⟩
