/-! PURE: one deed, in the class and in the reference -/
theorem and1 (x : Int32) : x &&& (1 : Int32) = 0 ∨ x &&& (1 : Int32) = 1 := by
  obtain ⟨j, hj, h⟩ := pk_andE x (m := 1) 1 (by decide)
  have : j = 0 ∨ j = 1 := by omega
  rcases this with rfl | rfl
  · exact Or.inl h
  · exact Or.inr h
theorem and1_ne {x : Int32} (h : ¬ x &&& (1 : Int32) = 0) : x &&& (1 : Int32) = 1 := (and1 x).resolve_left h
theorem lasts_eq : ∀ a : Nat, a < 8 → ∀ b : Nat, b < 10 → f_X9_lasts (nI a) (nI b) = f_X4_lasting (nI a) (nI b) := by decide +kernel
theorem own_eq : ∀ a : Nat, a < 8 → ∀ b : Nat, b < 10 → f_X9_own (nI a) (nI b) = f_X4_lastingOwn (nI a) (f_X4_lasting (nI a) (nI b)) := by decide +kernel
theorem points_eq : ∀ a : Nat, a < 8 → ∀ b : Nat, b < 10 → f_X9_points (nI a) (nI b) = f_X4_size (nI a) (nI b) := by decide +kernel
theorem guilt_eq : ∀ a : Nat, a < 8 → ∀ b : Nat, b < 10 → f_X9_guiltBy (nI a) (nI b) = f_X4_burden (nI a) (nI b) := by decide +kernel
theorem cost_eq : ∀ a : Nat, a < 8 → ∀ b : Nat, b < 10 → f_X9_costBy (nI a) (nI b) = f_X4_expense (nI a) (nI b) := by decide +kernel
/-- one's memory, of the numbers alone -/
def knownS (w s p : Int32) : Bool := if p = w then true else (if (s >>> (p &&& 31)) &&& (1 : Int32) = 0 then false else true)
def keptS (d w s la ow p t : Int32) : Bool := if t < d then false else (if knownS w s p = true then (if (if p = w then ow else la) < t - d then false else true) else false)
theorem known_c {i : Nat} {p : Int32} {σ : St} : f_X1_isKnown i p σ = knownS (σ i 3) (σ i 4) p := rfl
theorem kept_c {i : Nat} {p t : Int32} {σ : St} : f_X1_isKept i p t σ = keptS (σ i 2) (σ i 3) (σ i 4) (σ i 5) (σ i 6) p t := rfl
theorem of_eq {k j : Nat} : f_X9_of (nI k) (nI j) = nI (2 + 5 * k + j) := by
  unfold f_X9_of
  show (nI 2 + nI 5 * nI k) + nI j = _
  rw [pk_mul, nI_add, nI_add]
theorem of_in {k : Nat} (j : Nat) (hk : k < 10) (hj : j < 5) : inb (f_X9_of (nI k) (nI j)) 52 := by
  rw [of_eq]; exact inb_nI (by omega) (by decide)
theorem of_cl {k : Nat} (j : Nat) (hk : k < 10) (hj : j < 5) : (f_X9_of (nI k) (nI j)).toNatClampNeg = 2 + 5 * k + j := by
  rw [of_eq, nI_clamp (by omega)]
theorem told_r {r k : Nat} {σ : St} (hk : k < 10) : f_X9_isTold r (nI k) σ = some (!decide (σ r 1 < σ r (2 + 5 * k + 2))) := by
  unfold f_X9_isTold
  have h1 := of_in 2 hk (by decide)
  have h2 := of_cl 2 hk (by decide)
  change inb (f_X9_of (nI k) (2 : Int32)) 52 at h1
  change (f_X9_of (nI k) (2 : Int32)).toNatClampNeg = _ at h2
  rw [if_pos h1, h2]
  by_cases h : σ r 1 < σ r (2 + 5 * k + 2)
  · rw [if_pos h]; simp [h]
  · rw [if_neg h]; simp [h]
theorem wasThere_r {r k : Nat} {p : Int32} {σ : St} (hk : k < 10) : f_X9_wasThere r p (nI k) σ = some (knownS (σ r (2 + 5 * k + 3)) (σ r (2 + 5 * k + 4)) p) := by
  unfold f_X9_wasThere knownS
  have h1 := of_in 3 hk (by decide)
  have h2 := of_cl 3 hk (by decide)
  have h3 := of_in 4 hk (by decide)
  have h4 := of_cl 4 hk (by decide)
  change inb (f_X9_of (nI k) (3 : Int32)) 52 at h1
  change (f_X9_of (nI k) (3 : Int32)).toNatClampNeg = _ at h2
  change inb (f_X9_of (nI k) (4 : Int32)) 52 at h3
  change (f_X9_of (nI k) (4 : Int32)).toNatClampNeg = _ at h4
  rw [if_pos h1, h2, if_pos h3, h4]
  by_cases h : σ r (2 + 5 * k + 3) = p
  · rw [if_pos h, if_pos h.symm]; rfl
  · rw [if_neg h, if_neg (Ne.symm h)]
    unfold f_X9_has
    by_cases hz : (σ r (2 + 5 * k + 4) >>> (p &&& 31)) &&& (1 : Int32) = 0
    · rw [if_pos hz, hz]; rfl
    · rw [if_neg hz, and1_ne hz]; rfl
theorem hasIt_r {r k : Nat} {p : Int32} {σ : St} (hk : k < 10) : f_X9_hasIt r p (nI k) σ = some (keptS (σ r (2 + 5 * k + 2)) (σ r (2 + 5 * k + 3)) (σ r (2 + 5 * k + 4)) (f_X9_lasts (σ r (2 + 5 * k + 0)) (σ r (2 + 5 * k + 1))) (f_X9_own (σ r (2 + 5 * k + 0)) (σ r (2 + 5 * k + 1))) p (σ r 1)) := by
  unfold f_X9_hasIt keptS
  rw [told_r hk, wasThere_r hk, ob_s, ob_s]
  have a0 := of_in 0 hk (by decide)
  have b0 := of_cl 0 hk (by decide)
  have a1 := of_in 1 hk (by decide)
  have b1 := of_cl 1 hk (by decide)
  have a2 := of_in 2 hk (by decide)
  have b2 := of_cl 2 hk (by decide)
  have a3 := of_in 3 hk (by decide)
  have b3 := of_cl 3 hk (by decide)
  change inb (f_X9_of (nI k) (0 : Int32)) 52 at a0
  change (f_X9_of (nI k) (0 : Int32)).toNatClampNeg = _ at b0
  change inb (f_X9_of (nI k) (1 : Int32)) 52 at a1
  change (f_X9_of (nI k) (1 : Int32)).toNatClampNeg = _ at b1
  change inb (f_X9_of (nI k) (2 : Int32)) 52 at a2
  change (f_X9_of (nI k) (2 : Int32)).toNatClampNeg = _ at b2
  change inb (f_X9_of (nI k) (3 : Int32)) 52 at a3
  change (f_X9_of (nI k) (3 : Int32)).toNatClampNeg = _ at b3
  rw [if_pos a0, if_pos a1, if_pos a2, if_pos a3, b0, b1, b2, b3]
  by_cases h : σ r 1 < σ r (2 + 5 * k + 2)
  · rw [if_pos h, if_neg (by simp [h])]
  · rw [if_neg h, if_pos (by simp [h])]
    by_cases hk2 : knownS (σ r (2 + 5 * k + 3)) (σ r (2 + 5 * k + 4)) p = true
    · rw [if_pos hk2, if_pos hk2]
      by_cases hw : σ r (2 + 5 * k + 3) = p
      · rw [if_pos hw, if_pos hw.symm]
        unfold f_X9_hasIt_73
        by_cases hc : f_X9_own (σ r (2 + 5 * k + 0)) (σ r (2 + 5 * k + 1)) < σ r 1 - σ r (2 + 5 * k + 2)
        · rw [if_pos hc, if_pos hc]
        · rw [if_neg hc, if_neg hc]
      · rw [if_neg hw, if_neg (Ne.symm hw)]
        unfold f_X9_hasIt_73
        by_cases hc : f_X9_lasts (σ r (2 + 5 * k + 0)) (σ r (2 + 5 * k + 1)) < σ r 1 - σ r (2 + 5 * k + 2)
        · rw [if_pos hc, if_pos hc]
        · rw [if_neg hc, if_neg hc]
    · rw [if_neg hk2, if_neg hk2]
/-- who keeps it, of the numbers alone -/
def whoStep (d w s la ow t : Int32) : Nat → Int32 → Int32 := fun p a => a ||| (if keptS d w s la ow (nI p) t = true then (1 : Int32) <<< (nI p &&& 31) else 0)
def whoS (d w s la ow t : Int32) : Int32 := lf (whoStep d w s la ow t) (0 : Int32) 5
theorem whoHas_r {r k : Nat} {σ : St} (hk : k < 10) : f_X9_whoHas r (nI k) σ = some (whoS (σ r (2 + 5 * k + 2)) (σ r (2 + 5 * k + 3)) (σ r (2 + 5 * k + 4)) (f_X9_lasts (σ r (2 + 5 * k + 0)) (σ r (2 + 5 * k + 1))) (f_X9_own (σ r (2 + 5 * k + 0)) (σ r (2 + 5 * k + 1))) (σ r 1)) := by
  unfold f_X9_whoHas whoS
  refine loop_q (fun f a p => f_X9_whoHas_4 r (nI k) σ f a (nI p)) (lf (whoStep (σ r (2 + 5 * k + 2)) (σ r (2 + 5 * k + 3)) (σ r (2 + 5 * k + 4)) (f_X9_lasts (σ r (2 + 5 * k + 0)) (σ r (2 + 5 * k + 1))) (f_X9_own (σ r (2 + 5 * k + 0)) (σ r (2 + 5 * k + 1))) (σ r 1)) (0 : Int32)) 5 _ ?_ ?_ fu (by decide)
  · intro f p hp
    show f_X9_whoHas_4 r (nI k) σ (f + 1) _ (nI p) = _
    rw [f_X9_whoHas_4_s, if_neg (ge5 hp), hasIt_r hk, ob_s]
    show _ = f_X9_whoHas_4 r (nI k) σ f (whoStep (σ r (2 + 5 * k + 2)) (σ r (2 + 5 * k + 3)) (σ r (2 + 5 * k + 4)) (f_X9_lasts (σ r (2 + 5 * k + 0)) (σ r (2 + 5 * k + 1))) (f_X9_own (σ r (2 + 5 * k + 0)) (σ r (2 + 5 * k + 1))) (σ r 1) p (lf (whoStep (σ r (2 + 5 * k + 2)) (σ r (2 + 5 * k + 3)) (σ r (2 + 5 * k + 4)) (f_X9_lasts (σ r (2 + 5 * k + 0)) (σ r (2 + 5 * k + 1))) (f_X9_own (σ r (2 + 5 * k + 0)) (σ r (2 + 5 * k + 1))) (σ r 1)) (0 : Int32) p)) (nI (p + 1))
    unfold whoStep
    by_cases h : keptS (σ r (2 + 5 * k + 2)) (σ r (2 + 5 * k + 3)) (σ r (2 + 5 * k + 4)) (f_X9_lasts (σ r (2 + 5 * k + 0)) (σ r (2 + 5 * k + 1))) (f_X9_own (σ r (2 + 5 * k + 0)) (σ r (2 + 5 * k + 1))) (nI p) (σ r 1) = true
    · rw [if_pos h, if_pos h, f_X9_whoHas_26_e, nI_1]
    · rw [if_neg h, if_neg h, f_X9_whoHas_26_e, nI_1]
  · intro f
    show f_X9_whoHas_4 r (nI k) σ (f + 1) _ (nI 5) = _
    rw [f_X9_whoHas_4_s, if_pos (le5)]
def keepA (w s : Int32) (b1 b2 : Bool) : Int32 := if b2 = true then (if b1 = true then (1 : Int32) <<< (w &&& 31) else 0) ||| s else (if b1 = true then (1 : Int32) <<< (w &&& 31) else 0)
def whoA (w s : Int32) (b1 b2 : Bool) : Int32 := lf (fun p a => a ||| (if (if knownS w s (nI p) = true then (if nI p = w then b1 else b2) else false) = true then (1 : Int32) <<< (nI p &&& 31) else 0)) (0 : Int32) 5
theorem who_keep : ∀ w : Nat, w < 5 → ∀ s : Nat, s < 32 → s.testBit w = false → ∀ b1 b2 : Bool, whoA (nI w) (nI s) b1 b2 = keepA (nI w) (nI s) b1 b2 := by decide +kernel
theorem keepers_c {i : Nat} {t : Int32} {σ : St} : f_X1_keepersAfter i t σ = keepA (σ i 3) (σ i 4) (!decide (σ i 6 < t)) (!decide (σ i 5 < t)) := by
  unfold f_X1_keepersAfter keepA
  by_cases h1 : σ i 6 < t <;> by_cases h2 : σ i 5 < t <;> simp [h1, h2, f_X1_keepersAfter_18_e]
theorem whoS_eq {d w s la ow t : Int32} : whoS d w s la ow t = if t < d then 0 else whoA w s (!decide (ow < t - d)) (!decide (la < t - d)) := by
  unfold whoS whoA whoStep keptS
  by_cases h : t < d
  · rw [if_pos h]
    simp only [if_pos h]
    decide
  · rw [if_neg h]
    congr 1
    funext p a
    rw [if_neg h]
    congr 1
    by_cases hk : knownS w s (nI p) = true
    · rw [if_pos hk, if_pos hk]
      by_cases hw : nI p = w
      · rw [if_pos hw, if_pos hw]
        by_cases hc : ow < t - d <;> simp [hc]
      · rw [if_neg hw, if_neg hw]
        by_cases hc : la < t - d <;> simp [hc]
    · rw [if_neg hk, if_neg hk]
/-- a deed of the class as it must be -/
def DOk (σ : St) (i : Nat) : Prop := ∃ a b d w s : Nat, a < 8 ∧ b < 10 ∧ d < 365 ∧ w < 5 ∧ s < 32 ∧ s.testBit w = false ∧ σ i 0 = nI a ∧ σ i 1 = nI b ∧ σ i 2 = nI d ∧ σ i 3 = nI w ∧ σ i 4 = nI s ∧ σ i 5 = f_X4_lasting (nI a) (nI b) ∧ σ i 6 = f_X4_lastingOwn (nI a) (f_X4_lasting (nI a) (nI b))
/-- the reference's deed k in the row r is the class's at i -/
def DRel (σ : St) (i r k : Nat) : Prop := σ r (2 + 5 * k + 0) = σ i 0 ∧ σ r (2 + 5 * k + 1) = σ i 1 ∧ σ r (2 + 5 * k + 2) = σ i 2 ∧ σ r (2 + 5 * k + 3) = σ i 3 ∧ σ r (2 + 5 * k + 4) = σ i 4
theorem DOk.last {σ : St} {i : Nat} (h : DOk σ i) : f_X9_lasts (σ i 0) (σ i 1) = σ i 5 ∧ f_X9_own (σ i 0) (σ i 1) = σ i 6 := by
  obtain ⟨a, b, d, w, s, ha, hb, hd, hw, hs, ht, e0, e1, e2, e3, e4, e5, e6⟩ := h
  rw [e0, e1, e5, e6]
  exact ⟨lasts_eq a ha b hb, own_eq a ha b hb⟩
theorem DOk.size {σ : St} {i : Nat} (h : DOk σ i) : f_X9_points (σ i 0) (σ i 1) = f_X1_size i σ := by
  obtain ⟨a, b, d, w, s, ha, hb, hd, hw, hs, ht, e0, e1, -⟩ := h
  unfold f_X1_size
  rw [e0, e1]
  exact points_eq a ha b hb
theorem DOk.guilt {σ : St} {i : Nat} (h : DOk σ i) : f_X9_guiltBy (σ i 0) (σ i 1) = f_X1_burden i σ := by
  obtain ⟨a, b, d, w, s, ha, hb, hd, hw, hs, ht, e0, e1, -⟩ := h
  unfold f_X1_burden
  rw [e0, e1]
  exact guilt_eq a ha b hb
theorem DOk.keep {σ : St} {i : Nat} (h : DOk σ i) (b1 b2 : Bool) : whoA (σ i 3) (σ i 4) b1 b2 = keepA (σ i 3) (σ i 4) b1 b2 := by
  obtain ⟨a, b, d, w, s, ha, hb, hd, hw, hs, ht, e0, e1, e2, e3, e4, -⟩ := h
  rw [e3, e4]
  exact who_keep w hw s hs ht b1 b2
theorem hasIt_rel {σ : St} {i r k : Nat} {p : Int32} (hk : k < 10) (h : DOk σ i) (hr : DRel σ i r k) : f_X9_hasIt r p (nI k) σ = some (f_X1_isKept i p (σ r 1) σ) := by
  obtain ⟨h0, h1, h2, h3, h4⟩ := hr
  rw [hasIt_r hk, h0, h1, h2, h3, h4, h.last.1, h.last.2, kept_c]
theorem wasThere_rel {σ : St} {i r k : Nat} {p : Int32} (hk : k < 10) (hr : DRel σ i r k) : f_X9_wasThere r p (nI k) σ = some (f_X1_isKnown i p σ) := by
  obtain ⟨h0, h1, h2, h3, h4⟩ := hr
  rw [wasThere_r hk, h3, h4, known_c]
theorem whoHas_rel {σ : St} {i r k : Nat} (hk : k < 10) (h : DOk σ i) (hr : DRel σ i r k) : f_X9_whoHas r (nI k) σ = some (f_X1_keepers i (σ r 1) σ) := by
  obtain ⟨h0, h1, h2, h3, h4⟩ := hr
  rw [whoHas_r hk, h0, h1, h2, h3, h4, h.last.1, h.last.2, whoS_eq, h.keep]
  unfold f_X1_keepers
  by_cases hc : σ r 1 < σ i 2
  · rw [if_pos hc, if_pos hc]
  · rw [if_neg hc, if_neg hc, keepers_c]
theorem sizeOf_rel {σ : St} {i r k : Nat} (hk : k < 10) (h : DOk σ i) (hr : DRel σ i r k) : f_X9_sizeOf r (nI k) σ = some (f_X1_size i σ) := by
  obtain ⟨h0, h1, -⟩ := hr
  unfold f_X9_sizeOf
  have a0 := of_in 0 hk (by decide)
  have b0 := of_cl 0 hk (by decide)
  have a1 := of_in 1 hk (by decide)
  have b1 := of_cl 1 hk (by decide)
  change inb (f_X9_of (nI k) (0 : Int32)) 52 at a0
  change (f_X9_of (nI k) (0 : Int32)).toNatClampNeg = _ at b0
  change inb (f_X9_of (nI k) (1 : Int32)) 52 at a1
  change (f_X9_of (nI k) (1 : Int32)).toNatClampNeg = _ at b1
  rw [if_pos a0, if_pos a1, b0, b1, h0, h1]
  exact congrArg some h.size
