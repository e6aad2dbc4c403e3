/-! PURE: the calls that are told in a few rows -/
theorem no_if {α : Type} {b : Bool} {q : Prop} {x y : α} (h : b = true ↔ q) (n : ¬ q) : (if b = true then x else y) = y := if_neg (fun e => n (h.mp e))
theorem yes_if {α : Type} {b : Bool} {q : Prop} {x y : α} (h : b = true ↔ q) (n : q) : (if b = true then x else y) = x := if_pos (h.mpr n)
theorem ofi0 {k : Nat} (hk : k < 10) : inb (f_X9_of (nI k) (0 : Int32)) 52 := of_in 0 hk (by decide)
theorem ofc0 {k : Nat} (hk : k < 10) : (f_X9_of (nI k) (0 : Int32)).toNatClampNeg = 2 + 5 * k + 0 := of_cl 0 hk (by decide)
theorem ofi1 {k : Nat} (hk : k < 10) : inb (f_X9_of (nI k) (1 : Int32)) 52 := of_in 1 hk (by decide)
theorem ofc1 {k : Nat} (hk : k < 10) : (f_X9_of (nI k) (1 : Int32)).toNatClampNeg = 2 + 5 * k + 1 := of_cl 1 hk (by decide)
theorem ofi2 {k : Nat} (hk : k < 10) : inb (f_X9_of (nI k) (2 : Int32)) 52 := of_in 2 hk (by decide)
theorem ofc2 {k : Nat} (hk : k < 10) : (f_X9_of (nI k) (2 : Int32)).toNatClampNeg = 2 + 5 * k + 2 := of_cl 2 hk (by decide)
theorem ofi3 {k : Nat} (hk : k < 10) : inb (f_X9_of (nI k) (3 : Int32)) 52 := of_in 3 hk (by decide)
theorem ofc3 {k : Nat} (hk : k < 10) : (f_X9_of (nI k) (3 : Int32)).toNatClampNeg = 2 + 5 * k + 3 := of_cl 3 hk (by decide)
theorem ofi4 {k : Nat} (hk : k < 10) : inb (f_X9_of (nI k) (4 : Int32)) 52 := of_in 4 hk (by decide)
theorem ofc4 {k : Nat} (hk : k < 10) : (f_X9_of (nI k) (4 : Int32)).toNatClampNeg = 2 + 5 * k + 4 := of_cl 4 hk (by decide)
theorem p_knows {σ : St} (h : Inv σ) (x : Int32) : ∃ r, f_X8_knows x σ = some r ∧ f_X9_knows x σ = some r := by
  obtain ⟨n, hy⟩ := h.1
  unfold f_X8_knows f_X9_knows
  by_cases hx : isN x 5
  · rw [yes_if below5 hx, yes_if person_iff hx, memoryOf_eq hy.1 hy.2.1, knowsIn_eq hy.rd, hy.2.2.2.2.1]
    exact ⟨_, rfl, rfl⟩
  · rw [no_if below5 hx, no_if person_iff hx]
    exact ⟨_, rfl, rfl⟩
/-- a deed's number: the class's cell and the reference's answer -/
theorem deed_two {σ : St} {n : Nat} (hy : YR σ 21 62 n) (x : Int32) : (∃ k : Nat, k < n ∧ x = nI k ∧ f_X7_deedAt 21 x σ = some (some (24 + k)) ∧ f_X9_isDeed x σ = some true) ∨ (¬ isN x n ∧ f_X7_deedAt 21 x σ = some none ∧ f_X9_isDeed x σ = some false) := by
  obtain ⟨b, hb, hi⟩ := deed_iff (x := x) hy.1 hy.2.2.1
  by_cases hx : isN x n
  · obtain ⟨k, hk, rfl⟩ := id hx
    rw [hi.mpr hx] at hb
    exact Or.inl ⟨k, hk, rfl, deedAt_y hy.1 hy.2.1 hk, hb⟩
  · refine Or.inr ⟨hx, deedAt_n hy.1 hy.2.1 hx, ?_⟩
    cases b
    · exact hb
    · exact absurd (hi.mp rfl) hx
theorem YR.d {σ : St} {n k : Nat} (h : YR σ 21 62 n) (hk : k < n) : DOk σ (24 + k) ∧ DRel σ (24 + k) 62 k := ⟨h.2.2.2.2.2.1 k hk, h.2.2.2.2.2.2 k hk⟩
theorem p_remembers {σ : St} (h : Inv σ) (p x : Int32) : ∃ r, f_X8_remembers p x σ = some r ∧ f_X9_remembers p x σ = some r := by
  obtain ⟨n, hy⟩ := h.1
  unfold f_X8_remembers f_X9_remembers
  rcases deed_two hy x with ⟨k, hk, rfl, e1, e2⟩ | ⟨hx, e1, e2⟩
  · rw [e1, e2]
    show ∃ r, (if f_X8_isBelow p 5 = true then _ else _) = some r ∧ _
    by_cases hp : isN p 5
    · rw [yes_if below5 hp, yes_if person_iff hp]
      have e3 := hasIt_rel (p := p) (Nat.lt_of_lt_of_le hk hy.1) (hy.d hk).1 (hy.d hk).2
      rw [hy.2.2.2.2.1] at e3
      show ∃ r, _ ∧ (ob (f_X9_hasIt 62 p (nI k) σ) _) = some r
      rw [e3, ob_s]
      by_cases hc : f_X1_isKept (24 + k) p (σ 21 3) σ = true
      · rw [if_pos hc]; exact ⟨_, rfl, rfl⟩
      · rw [if_neg hc]; exact ⟨_, rfl, rfl⟩
    · rw [no_if below5 hp, no_if person_iff hp]
      exact ⟨_, rfl, rfl⟩
  · rw [e1, e2]
    refine ⟨-1, rfl, ?_⟩
    by_cases hp : isN p 5
    · rw [yes_if person_iff hp]; rfl
    · rw [no_if person_iff hp]; rfl
theorem p_guilt {σ : St} (h : Inv σ) (x : Int32) : ∃ r, f_X8_guilt x σ = some r ∧ f_X9_guilt x σ = some r := by
  obtain ⟨n, hy⟩ := h.1
  unfold f_X8_guilt f_X9_guilt
  rcases deed_two hy x with ⟨k, hk, rfl, e1, e2⟩ | ⟨hx, e1, e2⟩
  · rw [e1, e2]
    have hk10 := Nat.lt_of_lt_of_le hk hy.1
    refine ⟨f_X1_burden (24 + k) σ, rfl, ?_⟩
    rw [ob_s, if_pos rfl, if_pos (ofi0 hk10), if_pos (ofi1 hk10), ofc0 hk10, ofc1 hk10, (hy.d hk).2.1, (hy.d hk).2.2.1, (hy.d hk).1.guilt]
  · rw [e1, e2]
    exact ⟨_, rfl, rfl⟩
/-- TODAY -/
theorem p_today {σ : St} (h : Inv σ) (x : Int32) : ∃ r σ1 σ2, f_X8_today x σ = some (r, σ1) ∧ f_X9_today x σ1 = some (r, σ2) ∧ Inv σ2 := by
  obtain ⟨n, hy⟩ := h.1
  unfold f_X8_today f_X9_today
  by_cases hx : isN x 366
  · rw [yes_if within365 hx]
    refine ⟨_, _, up (up σ 21 3 x) 62 1 x, rfl, ?_, ?_⟩
    · rw [yes_if isin365 hx, up_n (show (62 : Nat) ≠ 21 by decide), hy.2.2.2.2.1]
    · have e21 : up (up σ 21 3 x) 62 1 x 21 = upd (σ 21) 3 x := by rw [up_n (by decide), up_s]
      have e62 : up (up σ 21 3 x) 62 1 x 62 = upd (σ 62) 1 x := by rw [up_s, up_n (by decide)]
      have en : ∀ i : Nat, i ≠ 21 → i ≠ 62 → up (up σ 21 3 x) 62 1 x i = σ i := fun i h1 h2 => by rw [up_n h2, up_n h1]
      obtain ⟨-, q2, q3⟩ := h
      obtain ⟨h1, h2, h3, h4, h5, h6, h7⟩ := hy
      refine ⟨⟨n, h1, by rw [e21]; exact h2, by rw [e62]; exact h3, ?_, by rw [e21, e62]; rfl, fun k hk => (h6 k hk).congr (en _ (by omega) (by omega)), fun k hk => ?_⟩, ?_, fun d hd => ?_⟩
      · obtain ⟨t, ht, rfl⟩ := hx
        exact ⟨t, by omega, by rw [e21]; rfl⟩
      · have e9 : ∀ j : Nat, upd (σ 62) 1 x (2 + j) = σ 62 (2 + j) := fun j => pk_un (by omega)
        have q := h7 k hk
        unfold DRel at q ⊢
        rw [e62, en (21 + 1 + 2 + k) (by omega) (by omega)]
        have f0 : ∀ j : Nat, upd (σ 62) 1 x (2 + 5 * k + j) = σ 62 (2 + 5 * k + j) := fun j => pk_un (by omega)
        rw [f0, f0, f0, f0, f0]
        exact q
      · rw [en 0 (by decide) (by decide), en 61 (by decide) (by decide)]
        rcases q2 with q2 | ⟨a, b, m, c⟩
        · exact Or.inl q2
        · exact Or.inr ⟨a, b, m, c.congr (en 47 (by decide) (by decide)) (en 64 (by decide) (by decide)) (fun k hk => en _ (by omega) (by omega))⟩
      · exact (q3 d hd).congr (en _ (by omega) (by omega)) (en _ (by omega) (by omega)) (by rw [en 69 (by decide) (by decide)]) (by rw [en 70 (by decide) (by decide)]) (by rw [en 71 (by decide) (by decide)]) (by rw [en 72 (by decide) (by decide)]) (by rw [en 73 (by decide) (by decide)]) (fun j _ => by rw [en 74 (by decide) (by decide)])
  · rw [no_if within365 hx]
    refine ⟨_, _, _, rfl, ?_, h⟩
    rw [no_if isin365 hx]
