/-! PURE: what ties the class to the reference -/
def YR (σ : St) (y r n : Nat) : Prop := n ≤ 10 ∧ σ y 2 = nI n ∧ σ r 0 = nI n ∧ (∃ t : Nat, t ≤ 365 ∧ σ y 3 = nI t) ∧ σ r 1 = σ y 3 ∧ (∀ k : Nat, k < n → DOk σ (y + 1 + 2 + k)) ∧ ∀ k : Nat, k < n → DRel σ (y + 1 + 2 + k) r k
def SR0 (σ : St) (d : Nat) : Prop := σ (2 + 2 * d) 2 = -1 ∧ σ (2 + 2 * d) 3 = -1 ∧ σ 69 d = 0
def SR1 (σ : St) (d : Nat) : Prop := ∃ a b : Nat, a < 8 ∧ b < 10 ∧ σ (2 + 2 * d) 2 = -1 ∧ σ (2 + 2 * d) 3 = nI a ∧ σ (2 + 2 * d) 4 = nI b ∧ σ 69 d = 1 ∧ σ 70 d = nI a ∧ σ 71 d = nI b
def SR2 (σ : St) (d s n : Nat) : Prop := s < 3 ∧ n ≤ 100 ∧ σ (2 + 2 * d) 2 = nI s ∧ σ (2 + 2 * d) 3 = -1 ∧ σ (2 + 2 * d) 1 = nI n ∧ σ 69 d = 2 ∧ σ 72 d = nI s ∧ σ 73 d = nI n ∧ (∀ j : Nat, j < n → σ 74 (100 * d + j) = σ (3 + 2 * d) j) ∧ (s = 0 → ∀ j : Nat, j < n → -128 ≤ (σ (3 + 2 * d) j).toInt ∧ (σ (3 + 2 * d) j).toInt ≤ 127)
def SR (σ : St) (d : Nat) : Prop := SR0 σ d ∨ SR1 σ d ∨ ∃ s n : Nat, SR2 σ d s n
def Inv (σ : St) : Prop := (∃ n, YR σ 21 62 n) ∧ ((σ 0 5 = 0 ∧ σ 61 4 = 0) ∨ (σ 0 5 = 1 ∧ σ 61 4 = 1 ∧ ∃ n, YR σ 47 64 n)) ∧ ∀ d : Nat, d < 8 → SR σ d
theorem DOk.congr {σ τ : St} {i : Nat} (h : τ i = σ i) (k : DOk σ i) : DOk τ i := by
  unfold DOk at k ⊢
  rw [h]
  exact k
theorem DRel.congr {σ τ : St} {i r k : Nat} (h : τ i = σ i) (hr : τ r = σ r) (q : DRel σ i r k) : DRel τ i r k := by
  unfold DRel at q ⊢
  rw [h, hr]
  exact q
theorem YR.congr {σ τ : St} {y r n : Nat} (hy : τ y = σ y) (hr : τ r = σ r) (hd : ∀ k : Nat, k < 10 → τ (y + 1 + 2 + k) = σ (y + 1 + 2 + k)) (h : YR σ y r n) : YR τ y r n := by
  obtain ⟨h1, h2, h3, h4, h5, h6, h7⟩ := h
  refine ⟨h1, by rw [hy]; exact h2, by rw [hr]; exact h3, by rw [hy]; exact h4, by rw [hy, hr]; exact h5, fun k hk => (h6 k hk).congr (hd k (by omega)), fun k hk => (h7 k hk).congr (hd k (by omega)) hr⟩
def Same (σ τ : St) : Prop := (∀ i : Nat, (i = 21 ∨ (24 ≤ i ∧ i < 34) ∨ i = 62 ∨ i = 47 ∨ (50 ≤ i ∧ i < 60) ∨ i = 64 ∨ (2 ≤ i ∧ i < 18) ∨ (69 ≤ i ∧ i ≤ 74)) → τ i = σ i) ∧ τ 0 5 = σ 0 5 ∧ τ 61 4 = σ 61 4
theorem Same.rf {σ : St} : Same σ σ := ⟨fun _ _ => rfl, rfl, rfl⟩
theorem Same.tr {σ τ ρ : St} (h : Same σ τ) (g : Same τ ρ) : Same σ ρ := ⟨fun i hi => (g.1 i hi).trans (h.1 i hi), g.2.1.trans h.2.1, g.2.2.trans h.2.2⟩
theorem SR.congr {σ τ : St} {d : Nat} (h1 : τ (2 + 2 * d) = σ (2 + 2 * d)) (h2 : τ (3 + 2 * d) = σ (3 + 2 * d)) (h3 : τ 69 d = σ 69 d) (h4 : τ 70 d = σ 70 d) (h5 : τ 71 d = σ 71 d) (h6 : τ 72 d = σ 72 d) (h7 : τ 73 d = σ 73 d) (h8 : ∀ j : Nat, j < 100 → τ 74 (100 * d + j) = σ 74 (100 * d + j)) (h : SR σ d) : SR τ d := by
  rcases h with h | ⟨a, b, h⟩ | ⟨s, n, q1, q2, q3, q4, q5, q6, q7, q8, q9, q10⟩
  · refine Or.inl ?_
    unfold SR0 at h ⊢
    rw [h1, h3]
    exact h
  · refine Or.inr (Or.inl ⟨a, b, ?_⟩)
    rw [h1, h3, h4, h5]
    exact h
  · refine Or.inr (Or.inr ⟨s, n, q1, q2, by rw [h1]; exact q3, by rw [h1]; exact q4, by rw [h1]; exact q5, by rw [h3]; exact q6, by rw [h6]; exact q7, by rw [h7]; exact q8, fun j hj => ?_, fun hs j hj => by rw [h2]; exact q10 hs j hj⟩)
    rw [h8 j (by omega), h2]
    exact q9 j hj
theorem Same.inv {σ τ : St} (h : Same σ τ) (q : Inv σ) : Inv τ := by
  obtain ⟨h1, h2, h3⟩ := h
  obtain ⟨⟨n, q1⟩, q2, q3⟩ := q
  refine ⟨⟨n, q1.congr (h1 21 (by omega)) (h1 62 (by omega)) (fun k hk => h1 _ (by omega))⟩, ?_, fun d hd => ?_⟩
  · rw [h2, h3]
    rcases q2 with q2 | ⟨a, b, m, c⟩
    · exact Or.inl q2
    · exact Or.inr ⟨a, b, m, c.congr (h1 47 (by omega)) (h1 64 (by omega)) (fun k hk => h1 _ (by omega))⟩
  · have e : ∀ i, (69 ≤ i ∧ i ≤ 74) → τ i = σ i := fun i hi => h1 i (by omega)
    exact (q3 d hd).congr (h1 _ (by omega)) (h1 _ (by omega)) (by rw [e 69 (by omega)]) (by rw [e 70 (by omega)]) (by rw [e 71 (by omega)]) (by rw [e 72 (by omega)]) (by rw [e 73 (by omega)]) (fun j _ => by rw [e 74 (by omega)])
theorem isN_no {x : Int32} {n : Nat} (hn : n < 2 ^ 31) (h : ¬ isN x n) : x < 0 ∨ nI n ≤ x := by
  rw [isN_iff hn] at h
  rw [i32_lt, i32_le, nI_toInt hn]
  have e0 : (0 : Int32).toInt = 0 := rfl
  rw [e0]
  omega
theorem nI_n0 {k : Nat} (h : k < 2 ^ 31) : ¬ nI k < 0 := nI_pos h
theorem deedAt_y {y n k : Nat} {σ : St} (hn : n ≤ 10) (h : σ y 2 = nI n) (hk : k < n) : f_X7_deedAt y (nI k) σ = some (some (y + 1 + 2 + k)) := by
  unfold f_X7_deedAt
  rw [if_neg (nI_n0 (by omega)), h, if_neg (nI_ge hk (by omega)), if_neg (ge10 (k := k) (by omega)), if_pos (inb_nI (by omega) (by decide)), nI_clamp (by omega)]
theorem oc_ss {α : Type} {i : Nat} {a : α} {f : Nat → α} : oc (some i) a f = f i := rfl
theorem oc_nn {α : Type} {a : α} {f : Nat → α} : oc none a f = a := rfl
theorem deedAt_n {y n : Nat} {x : Int32} {σ : St} (hn : n ≤ 10) (h : σ y 2 = nI n) (hk : ¬ isN x n) : f_X7_deedAt y x σ = some none := by
  unfold f_X7_deedAt
  rcases isN_no (by omega) hk with q | q
  · rw [if_pos q]
  · by_cases h0 : x < 0
    · rw [if_pos h0]
    · rw [if_neg h0, h, if_pos q]
theorem shelfAt_y {d : Nat} {σ : St} (hd : d < 8) : f_X8_shelfAt (nI d) σ = some (some (2 + 2 * d)) := by
  unfold f_X8_shelfAt
  rw [if_neg (nI_n0 (by omega)), if_neg (ge8 hd), if_pos (inb_nI hd (by decide)), nI_clamp (by omega)]
theorem shelfAt_n {x : Int32} {σ : St} (hk : ¬ isN x 8) : f_X8_shelfAt x σ = some none := by
  unfold f_X8_shelfAt
  rcases isN_no (by decide) hk with q | q
  · rw [if_pos q]
  · by_cases h0 : x < 0
    · rw [if_pos h0]
    · rw [if_neg h0]
      exact if_pos q
theorem small_ne : ∀ a : Nat, a < 8 → ¬ nI a = (-1 : Int32) := by decide +kernel
theorem ref_0 {d : Nat} {w : Int32} {σ : St} (h : SR0 σ d) : f_X8_refusal (some (2 + 2 * d)) w σ = -11 := by
  obtain ⟨h1, h2, -⟩ := h
  unfold f_X8_refusal f_X5_isEmpty
  show (if (if σ (2 + 2 * d) 2 = -1 then (if σ (2 + 2 * d) 3 = -1 then true else false) else false) = true then _ else _) = _
  rw [if_pos h1, if_pos h2, if_pos rfl]
theorem ref_1 {d : Nat} {w : Int32} {σ : St} (h : SR1 σ d) : f_X8_refusal (some (2 + 2 * d)) w σ = if (0 : Int32) = w then 0 else -12 := by
  obtain ⟨a, b, ha, hb, h1, h2, -⟩ := h
  unfold f_X8_refusal f_X5_isEmpty f_X5_hasRow
  show (if (if σ (2 + 2 * d) 2 = -1 then (if σ (2 + 2 * d) 3 = -1 then true else false) else false) = true then _ else (if b2i (if σ (2 + 2 * d) 2 = -1 then false else true) = w then _ else _)) = _
  rw [if_pos h1, h2, if_neg (small_ne a ha), if_neg (by decide), if_pos h1]
  rfl
theorem ref_2 {d s n : Nat} {w : Int32} {σ : St} (h : SR2 σ d s n) : f_X8_refusal (some (2 + 2 * d)) w σ = if (1 : Int32) = w then 0 else -12 := by
  obtain ⟨hs, hn, h1, h2, -⟩ := h
  unfold f_X8_refusal f_X5_isEmpty f_X5_hasRow
  show (if (if σ (2 + 2 * d) 2 = -1 then (if σ (2 + 2 * d) 3 = -1 then true else false) else false) = true then _ else (if b2i (if σ (2 + 2 * d) 2 = -1 then false else true) = w then _ else _)) = _
  rw [h1, if_neg (small_ne s (by omega)), if_neg (by decide), if_neg (small_ne s (by omega))]
  rfl
/-- numbers as a mask -/
def maskS (P : Nat → Bool) : Nat → Int32 := lf (fun k a => a ||| (if P k = true then (1 : Int32) <<< (nI k &&& 31) else 0)) (0 : Int32)
theorem or0 (a : Int32) : a ||| 0 = a := by simp
theorem maskS_s {P : Nat → Bool} {n : Nat} : maskS P (n + 1) = maskS P n ||| (if P n = true then (1 : Int32) <<< (nI n &&& 31) else 0) := rfl
theorem maskS_t {P : Nat → Bool} {n : Nat} (h : P n = true) : maskS P (n + 1) = maskS P n ||| ((1 : Int32) <<< (nI n &&& 31)) := by rw [maskS_s, if_pos h]
theorem maskS_f {P : Nat → Bool} {n : Nat} (h : ¬ P n = true) : maskS P (n + 1) = maskS P n := by rw [maskS_s, if_neg h, or0]
theorem maskS_congr {P Q : Nat → Bool} : ∀ {n : Nat}, (∀ k, k < n → P k = Q k) → maskS P n = maskS Q n
  | 0, _ => rfl
  | n + 1, h => by rw [maskS_s, maskS_s, maskS_congr (n := n) (fun k hk => h k (by omega)), h n (by omega)]
theorem memoryOf_eq {y n : Nat} {p t : Int32} {σ : St} (hn : n ≤ 10) (h : σ y 2 = nI n) : f_X7_memoryOf y p t σ = some (maskS (fun k => f_X1_isKept (y + 1 + 2 + k) p t σ) n) := by
  unfold f_X7_memoryOf
  refine loop_q (fun f a k => f_X7_memoryOf_5 y p t σ f a (nI k)) (maskS (fun k => f_X1_isKept (y + 1 + 2 + k) p t σ)) n _ ?_ ?_ fu (fu_gt (by omega))
  · intro f k hk
    show f_X7_memoryOf_5 y p t σ (f + 1) _ (nI k) = f_X7_memoryOf_5 y p t σ f _ (nI (k + 1))
    rw [f_X7_memoryOf_5_s, deedAt_y hn h hk, h, if_neg (nI_ge hk (by omega)), ob_s, oc_ss]
    by_cases hc : f_X1_isKept (y + 1 + 2 + k) p t σ = true
    · rw [if_pos hc, f_X7_memoryOf_44_e, nI_1, maskS_t hc]
    · rw [if_neg hc, f_X7_memoryOf_44_e, nI_1, maskS_f hc]
  · intro f
    show f_X7_memoryOf_5 y p t σ (f + 1) _ (nI n) = _
    rw [f_X7_memoryOf_5_s, h, if_pos (nI_le (Nat.le_refl n) (by omega))]
/-- the reference's row r is that of the deeds at y, its TODAY apart -/
def RD (σ : St) (y r n : Nat) : Prop := n ≤ 10 ∧ σ r 0 = nI n ∧ (∀ k : Nat, k < n → DOk σ (y + 1 + 2 + k)) ∧ ∀ k : Nat, k < n → DRel σ (y + 1 + 2 + k) r k
theorem YR.rd {σ : St} {y r n : Nat} (h : YR σ y r n) : RD σ y r n := ⟨h.1, h.2.2.1, h.2.2.2.2.2.1, h.2.2.2.2.2.2⟩
theorem knowsIn_eq {y r n : Nat} {p : Int32} {σ : St} (h : RD σ y r n) : f_X9_knowsIn r p σ = some (maskS (fun k => f_X1_isKept (y + 1 + 2 + k) p (σ r 1) σ) n) := by
  obtain ⟨hn, h0, hd, hr⟩ := h
  unfold f_X9_knowsIn
  refine loop_q (fun f a k => f_X9_knowsIn_4 r p σ f a (nI k)) (maskS (fun k => f_X1_isKept (y + 1 + 2 + k) p (σ r 1) σ)) n _ ?_ ?_ fu (fu_gt (by omega))
  · intro f k hk
    show f_X9_knowsIn_4 r p σ (f + 1) _ (nI k) = f_X9_knowsIn_4 r p σ f _ (nI (k + 1))
    rw [f_X9_knowsIn_4_s, h0, if_neg (nI_ge hk (by omega)), hasIt_rel (by omega) (hd k hk) (hr k hk), ob_s]
    by_cases hc : f_X1_isKept (y + 1 + 2 + k) p (σ r 1) σ = true
    · rw [if_pos hc, f_X9_knowsIn_28_e, nI_1, maskS_t hc]
    · rw [if_neg hc, f_X9_knowsIn_28_e, nI_1, maskS_f hc, or0]
  · intro f
    show f_X9_knowsIn_4 r p σ (f + 1) _ (nI n) = _
    rw [f_X9_knowsIn_4_s, h0, if_pos (nI_le (Nat.le_refl n) (by omega))]
