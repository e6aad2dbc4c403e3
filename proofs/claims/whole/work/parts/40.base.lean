/-! PURE: numbers, loops, the small helpers -/
theorem i32_lt {x y : Int32} : x < y ↔ x.toInt < y.toInt := Int32.lt_iff_toInt_lt
theorem i32_le {x y : Int32} : x ≤ y ↔ x.toInt ≤ y.toInt := Int32.le_iff_toInt_le
def isN (x : Int32) (n : Nat) : Prop := ∃ j : Nat, j < n ∧ x = nI j
theorem isN_iff {x : Int32} {n : Nat} (hn : n < 2 ^ 31) : isN x n ↔ 0 ≤ x.toInt ∧ x.toInt < n := by
  constructor
  · rintro ⟨j, hj, rfl⟩
    rw [nI_toInt (by omega)]
    omega
  · rintro ⟨h1, h2⟩
    exact ⟨x.toInt.toNat, by omega, Int32.toInt_inj.mp (by rw [nI_toInt (by omega)]; omega)⟩
theorem inb_nI {k n : Nat} (h : k < n) (hn : n < 2 ^ 31) : inb (nI k) n := ⟨nI_pos' (by omega), by rw [nI_clamp (by omega)]; exact h⟩
theorem fu_gt {n : Nat} (h : n < 4000) : n < fu := h
theorem ge1 {k : Nat} (h : k < 1) : ¬ (1 : Int32) ≤ nI k := nI_ge (b := 1) h (by decide)
theorem le1 : (1 : Int32) ≤ nI 1 := nI_le (a := 1) (Nat.le_refl 1) (by decide)
theorem ge2 {k : Nat} (h : k < 2) : ¬ (2 : Int32) ≤ nI k := nI_ge (b := 2) h (by decide)
theorem le2 : (2 : Int32) ≤ nI 2 := nI_le (a := 2) (Nat.le_refl 2) (by decide)
theorem ge3 {k : Nat} (h : k < 3) : ¬ (3 : Int32) ≤ nI k := nI_ge (b := 3) h (by decide)
theorem le3 : (3 : Int32) ≤ nI 3 := nI_le (a := 3) (Nat.le_refl 3) (by decide)
theorem ge4 {k : Nat} (h : k < 4) : ¬ (4 : Int32) ≤ nI k := nI_ge (b := 4) h (by decide)
theorem le4 : (4 : Int32) ≤ nI 4 := nI_le (a := 4) (Nat.le_refl 4) (by decide)
theorem ge5 {k : Nat} (h : k < 5) : ¬ (5 : Int32) ≤ nI k := nI_ge (b := 5) h (by decide)
theorem le5 : (5 : Int32) ≤ nI 5 := nI_le (a := 5) (Nat.le_refl 5) (by decide)
theorem ge8 {k : Nat} (h : k < 8) : ¬ (8 : Int32) ≤ nI k := nI_ge (b := 8) h (by decide)
theorem le8 : (8 : Int32) ≤ nI 8 := nI_le (a := 8) (Nat.le_refl 8) (by decide)
theorem ge10 {k : Nat} (h : k < 10) : ¬ (10 : Int32) ≤ nI k := nI_ge (b := 10) h (by decide)
theorem le10 : (10 : Int32) ≤ nI 10 := nI_le (a := 10) (Nat.le_refl 10) (by decide)
theorem ge31 {k : Nat} (h : k < 31) : ¬ (31 : Int32) ≤ nI k := nI_ge (b := 31) h (by decide)
theorem le31 : (31 : Int32) ≤ nI 31 := nI_le (a := 31) (Nat.le_refl 31) (by decide)
theorem ge52 {k : Nat} (h : k < 52) : ¬ (52 : Int32) ≤ nI k := nI_ge (b := 52) h (by decide)
theorem le52 : (52 : Int32) ≤ nI 52 := nI_le (a := 52) (Nat.le_refl 52) (by decide)
theorem ge99 {k : Nat} (h : k < 99) : ¬ (99 : Int32) ≤ nI k := nI_ge (b := 99) h (by decide)
theorem le99 : (99 : Int32) ≤ nI 99 := nI_le (a := 99) (Nat.le_refl 99) (by decide)
theorem ge100 {k : Nat} (h : k < 100) : ¬ (100 : Int32) ≤ nI k := nI_ge (b := 100) h (by decide)
theorem le100 : (100 : Int32) ≤ nI 100 := nI_le (a := 100) (Nat.le_refl 100) (by decide)
theorem ge364 {k : Nat} (h : k < 364) : ¬ (364 : Int32) ≤ nI k := nI_ge (b := 364) h (by decide)
theorem le364 : (364 : Int32) ≤ nI 364 := nI_le (a := 364) (Nat.le_refl 364) (by decide)
theorem ge365 {k : Nat} (h : k < 365) : ¬ (365 : Int32) ≤ nI k := nI_ge (b := 365) h (by decide)
theorem le365 : (365 : Int32) ≤ nI 365 := nI_le (a := 365) (Nat.le_refl 365) (by decide)
theorem below_iff {x : Int32} (n : Nat) (hn : n < 2 ^ 31) : f_X8_isBelow x (nI n) = true ↔ isN x n := by
  rw [isN_iff hn]
  unfold f_X8_isBelow
  have e0 : (0 : Int32).toInt = 0 := rfl
  have en : (nI n).toInt = n := nI_toInt hn
  by_cases h1 : x < 0
  · rw [if_pos h1]
    rw [i32_lt, e0] at h1
    exact ⟨fun h => (by cases h), fun h => (by omega)⟩
  · rw [if_neg h1]
    rw [i32_lt, e0] at h1
    by_cases h2 : nI n ≤ x
    · rw [if_pos h2]
      rw [i32_le, en] at h2
      exact ⟨fun h => (by cases h), fun h => (by omega)⟩
    · rw [if_neg h2]
      rw [i32_le, en] at h2
      exact ⟨fun _ => by omega, fun _ => rfl⟩
theorem within_iff {x : Int32} (n : Nat) (hn : n + 1 < 2 ^ 31) : f_X8_isWithin x (nI n) = true ↔ isN x (n + 1) := by
  rw [isN_iff hn]
  unfold f_X8_isWithin
  have e0 : (0 : Int32).toInt = 0 := rfl
  have en : (nI n).toInt = n := nI_toInt (by omega)
  by_cases h1 : x < 0
  · rw [if_pos h1]
    rw [i32_lt, e0] at h1
    exact ⟨fun h => (by cases h), fun h => (by omega)⟩
  · rw [if_neg h1]
    rw [i32_lt, e0] at h1
    by_cases h2 : nI n < x
    · rw [if_pos h2]
      rw [i32_lt, en] at h2
      exact ⟨fun h => (by cases h), fun h => (by omega)⟩
    · rw [if_neg h2]
      rw [i32_lt, en] at h2
      exact ⟨fun _ => by omega, fun _ => rfl⟩
theorem isIn_iff {x a b : Int32} : f_X9_isIn x a b = true ↔ a.toInt ≤ x.toInt ∧ x.toInt ≤ b.toInt := by
  unfold f_X9_isIn
  by_cases h1 : x < a
  · rw [if_pos h1]
    rw [i32_lt] at h1
    exact ⟨fun h => (by cases h), fun h => (by omega)⟩
  · rw [if_neg h1]
    rw [i32_lt] at h1
    by_cases h2 : b < x
    · rw [if_pos h2]
      rw [i32_lt] at h2
      exact ⟨fun h => (by cases h), fun h => (by omega)⟩
    · rw [if_neg h2]
      rw [i32_lt] at h2
      exact ⟨fun _ => by omega, fun _ => rfl⟩
theorem isIn0_iff {x : Int32} (n : Nat) (hn : n + 1 < 2 ^ 31) : f_X9_isIn x (0 : Int32) (nI n) = true ↔ isN x (n + 1) := by
  rw [isN_iff hn, isIn_iff, nI_toInt (by omega)]
  have e0 : (0 : Int32).toInt = 0 := rfl
  rw [e0]
  omega
theorem person_iff {x : Int32} : f_X9_isPerson x = true ↔ isN x 5 := isIn0_iff 4 (by decide)
theorem day_iff {x : Int32} : f_X9_isDay x = true ↔ isN x 365 := isIn0_iff 364 (by decide)
theorem shelf_iff {x : Int32} : f_X9_isShelf x = true ↔ isN x 8 := isIn0_iff 7 (by decide)
theorem deed_iff {x : Int32} {σ : St} {n : Nat} (hn : n ≤ 10) (h : σ 62 0 = nI n) : ∃ b, f_X9_isDeed x σ = some b ∧ (b = true ↔ isN x n) := by
  refine ⟨_, rfl, ?_⟩
  have e0 : (0 : Int32).toInt = 0 := rfl
  have h9 : ∀ n : Nat, n ≤ 10 → (nI n - (1 : Int32)).toInt = (n : Int) - 1 := by decide +kernel
  rw [isIn_iff, h, h9 n hn, isN_iff (by omega), e0]
  omega
theorem below2 {x : Int32} : f_X8_isBelow x (2 : Int32) = true ↔ isN x 2 := below_iff 2 (by decide)
theorem below3 {x : Int32} : f_X8_isBelow x (3 : Int32) = true ↔ isN x 3 := below_iff 3 (by decide)
theorem below5 {x : Int32} : f_X8_isBelow x (5 : Int32) = true ↔ isN x 5 := below_iff 5 (by decide)
theorem below8 {x : Int32} : f_X8_isBelow x (8 : Int32) = true ↔ isN x 8 := below_iff 8 (by decide)
theorem below10 {x : Int32} : f_X8_isBelow x (10 : Int32) = true ↔ isN x 10 := below_iff 10 (by decide)
theorem below80 {x : Int32} : f_X8_isBelow x (80 : Int32) = true ↔ isN x 80 := below_iff 80 (by decide)
theorem within8 {x : Int32} : f_X8_isWithin x (8 : Int32) = true ↔ isN x 9 := within_iff 8 (by decide)
theorem within9 {x : Int32} : f_X8_isWithin x (9 : Int32) = true ↔ isN x 10 := within_iff 9 (by decide)
theorem within10 {x : Int32} : f_X8_isWithin x (10 : Int32) = true ↔ isN x 11 := within_iff 10 (by decide)
theorem within31 {x : Int32} : f_X8_isWithin x (31 : Int32) = true ↔ isN x 32 := within_iff 31 (by decide)
theorem within364 {x : Int32} : f_X8_isWithin x (364 : Int32) = true ↔ isN x 365 := within_iff 364 (by decide)
theorem within365 {x : Int32} : f_X8_isWithin x (365 : Int32) = true ↔ isN x 366 := within_iff 365 (by decide)
theorem isin1 {x : Int32} : f_X9_isIn x (0 : Int32) (1 : Int32) = true ↔ isN x 2 := isIn0_iff 1 (by decide)
theorem isin2 {x : Int32} : f_X9_isIn x (0 : Int32) (2 : Int32) = true ↔ isN x 3 := isIn0_iff 2 (by decide)
theorem isin4 {x : Int32} : f_X9_isIn x (0 : Int32) (4 : Int32) = true ↔ isN x 5 := isIn0_iff 4 (by decide)
theorem isin7 {x : Int32} : f_X9_isIn x (0 : Int32) (7 : Int32) = true ↔ isN x 8 := isIn0_iff 7 (by decide)
theorem isin8 {x : Int32} : f_X9_isIn x (0 : Int32) (8 : Int32) = true ↔ isN x 9 := isIn0_iff 8 (by decide)
theorem isin9 {x : Int32} : f_X9_isIn x (0 : Int32) (9 : Int32) = true ↔ isN x 10 := isIn0_iff 9 (by decide)
theorem isin10 {x : Int32} : f_X9_isIn x (0 : Int32) (10 : Int32) = true ↔ isN x 11 := isIn0_iff 10 (by decide)
theorem isin31 {x : Int32} : f_X9_isIn x (0 : Int32) (31 : Int32) = true ↔ isN x 32 := isIn0_iff 31 (by decide)
theorem isin79 {x : Int32} : f_X9_isIn x (0 : Int32) (79 : Int32) = true ↔ isN x 80 := isIn0_iff 79 (by decide)
theorem isin365 {x : Int32} : f_X9_isIn x (0 : Int32) (365 : Int32) = true ↔ isN x 366 := isIn0_iff 365 (by decide)
/-- a chain of states, one a turn of the loop -/
theorem loop_q {α β : Type} (L : Nat → α → Nat → β) (A : Nat → α) (n : Nat) (res : β) (hs : ∀ f k, k < n → L (f + 1) (A k) k = L f (A (k + 1)) (k + 1)) (he : ∀ f, L (f + 1) (A n) n = res) (f : Nat) (hf : n < f) : L f (A 0) 0 = res := by
  have key : ∀ (d f k : Nat), k + d = n → d < f → L f (A k) k = res := by
    intro d
    induction d with
    | zero =>
      intro f k hk hf
      obtain ⟨f, rfl⟩ : ∃ g, f = g + 1 := ⟨f - 1, by omega⟩
      have : k = n := by omega
      subst this
      exact he f
    | succ d ih =>
      intro f k hk hf
      obtain ⟨f, rfl⟩ : ∃ g, f = g + 1 := ⟨f - 1, by omega⟩
      rw [hs f k (by omega)]
      exact ih f (k + 1) (by omega) (by omega)
  exact key n f 0 (by omega) hf
def lf {α : Type} (s : Nat → α → α) (a : α) : Nat → α
  | 0 => a
  | k + 1 => s k (lf s a k)
def bitsS (x : Int32) : Int32 := lf (fun k a => a + ((x >>> (nI k &&& 31)) &&& (1 : Int32))) (0 : Int32) 10
theorem bits_eq {x : Int32} {σ : St} : f_X9_bits x σ = some (bitsS x) := by
  unfold f_X9_bits
  refine loop_q (fun f a k => f_X9_bits_4 x σ f a (nI k)) (lf (fun k a => a + ((x >>> (nI k &&& 31)) &&& (1 : Int32))) (0 : Int32)) 10 _ ?_ ?_ fu (by decide)
  · intro f k hk
    show f_X9_bits_4 x σ (f + 1) _ (nI k) = _
    rw [f_X9_bits_4_s, if_neg (ge10 hk), nI_1]
    rfl
  · intro f
    show f_X9_bits_4 x σ (f + 1) _ (nI 10) = _
    rw [f_X9_bits_4_s, if_pos (le10)]
    rfl
theorem bits_pop : ∀ x : Nat, x < 1024 → bitsS (nI x) = f_J6_bitCount_0f7a4 (nI x) := by decide +kernel
def cp52 (σ : St) (i j n : Nat) : St := fun a => if a = j then (fun b => if b < n then σ i b else σ j b) else σ a
theorem cp52_j {σ : St} {i j n : Nat} : cp52 σ i j n j = fun b => if b < n then σ i b else σ j b := if_pos rfl
theorem cp52_n {σ : St} {i j n a : Nat} (h : a ≠ j) : cp52 σ i j n a = σ a := if_neg h
theorem cp52_0 {σ : St} {i j : Nat} : cp52 σ i j 0 = σ := by
  funext a
  by_cases h : a = j
  · subst h; rw [cp52_j]; funext b; exact if_neg (Nat.not_lt_zero b)
  · exact cp52_n h
theorem cp52_s {σ : St} {i j k : Nat} (h : i ≠ j) : up (cp52 σ i j k) j k (cp52 σ i j k i k) = cp52 σ i j (k + 1) := by
  funext a
  by_cases ha : a = j
  · subst ha
    rw [up_s, cp52_j, cp52_j, cp52_n h]
    funext b
    unfold upd
    by_cases hb : b = k
    · subst hb; rw [if_pos rfl, if_pos (by omega)]
    · rw [if_neg hb]
      show (if b < k then σ i b else σ a b) = _
      by_cases hk : b < k
      · rw [if_pos hk, if_pos (by omega)]
      · rw [if_neg hk, if_neg (by omega)]
  · rw [up_n ha, cp52_n ha, cp52_n ha]
theorem copies_eq {i j : Nat} {σ : St} (h : i ≠ j) : f_X9_copies i j σ = some (cp52 σ i j 52) := by
  unfold f_X9_copies
  have e := loop_q (fun f a k => f_X9_copies_2 i j f (nI k) a) (fun k => cp52 σ i j k) 52 (some (cp52 σ i j 52)) (fun f k hk => ?_) (fun f => ?_) fu (fu_gt (by decide))
  · rw [cp52_0] at e
    exact e
  · show f_X9_copies_2 i j (f + 1) (nI k) _ = _
    rw [f_X9_copies_2_s, if_neg (ge52 hk), if_pos (inb_nI hk (by decide)), if_pos (inb_nI hk (by decide)), nI_clamp (by omega), nI_1, cp52_s h]
  · show f_X9_copies_2 i j (f + 1) (nI 52) _ = _
    rw [f_X9_copies_2_s, if_pos (le52)]
