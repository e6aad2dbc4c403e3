/-! PURE: copy -/
theorem upc_s {σ : St} {i : Nat} {f : Nat → Int32} : upc σ i f i = f := if_pos rfl
theorem upc_n {σ : St} {i j : Nat} {f : Nat → Int32} (h : j ≠ i) : upc σ i f j = σ j := if_neg h
theorem upc_up {σ : St} {i k : Nat} {f : Nat → Int32} {x : Int32} : up (upc σ i f) i k x = upc σ i (upd f k x) := by
  funext b
  by_cases h : b = i
  · subst h; rw [up_s, upc_s, upc_s]
  · rw [up_n h, upc_n h, upc_n h]
theorem upc_id {σ : St} {i : Nat} : upc σ i (σ i) = σ := by
  funext b
  by_cases h : b = i
  · subst h; rw [upc_s]
  · rw [upc_n h]
theorem sub_nn {n a : Nat} (hn : n ≤ 100) (ha : a < 2 ^ 31) : (nI n - nI a).toInt = (n : Int) - a := by
  rw [Int32.toInt_sub, nI_toInt (by omega), nI_toInt (by omega)]
  exact Int.bmod_eq_of_le (by omega) (by omega)
theorem str_iff {σ : St} {i n : Nat} {x y : Int32} (hn : n ≤ 100) (h : σ i 1 = nI n) : f_X5_hasStretch i x y σ = true ↔ ∃ a b : Nat, a + b ≤ n ∧ x = nI a ∧ y = nI b := by
  unfold f_X5_hasStretch
  rw [h]
  by_cases h1 : x < 0
  · rw [if_pos h1]
    refine ⟨fun q => absurd q (by decide), ?_⟩
    rintro ⟨a, b, hab, rfl, rfl⟩
    exact absurd h1 (nI_n0 (by omega))
  · rw [if_neg h1]
    by_cases h2 : y < 0
    · rw [if_pos h2]
      refine ⟨fun q => absurd q (by decide), ?_⟩
      rintro ⟨a, b, hab, rfl, rfl⟩
      exact absurd h2 (nI_n0 (by omega))
    · rw [if_neg h2]
      obtain ⟨a, ha, rfl⟩ := nI_of h1
      obtain ⟨b, hb, rfl⟩ := nI_of h2
      by_cases h3 : n < a
      · rw [if_pos (nI_lt h3 ha)]
        refine ⟨fun q => absurd q (by decide), ?_⟩
        rintro ⟨c, d, hcd, e1, e2⟩
        rw [nI_eq (by omega) (by omega)] at e1
        omega
      · rw [if_neg (nI_nlt (by omega) (by omega)), pk_sub (by omega)]
        by_cases h4 : n - a < b
        · rw [if_pos (nI_lt h4 hb)]
          refine ⟨fun q => absurd q (by decide), ?_⟩
          rintro ⟨c, d, hcd, e1, e2⟩
          rw [nI_eq (by omega) (by omega)] at e1 e2
          omega
        · rw [if_neg (nI_nlt (by omega) (by omega))]
          exact ⟨fun _ => ⟨a, b, by omega, rfl, rfl⟩, fun _ => rfl⟩
def bcS (A : Nat → Int32) (a b n v : Nat) : Nat → Int32 := fun k => if b + n ≤ k + v ∧ k < b + n then A (a + (k - b)) else A k
def fcS (A : Nat → Int32) (a b v : Nat) : Nat → Int32 := fun k => if b ≤ k ∧ k < b + v then A (a + (k - b)) else A k
theorem bc_s {A : Nat → Int32} {a b n v : Nat} (hv : v < n) (h : a ≤ b ∨ b + n ≤ a) : upd (bcS A a b n v) (b + (n - 1 - v)) (bcS A a b n v (a + (n - 1 - v))) = bcS A a b n (v + 1) := by
  have e : bcS A a b n v (a + (n - 1 - v)) = A (a + (n - 1 - v)) := if_neg (by omega)
  rw [e]
  funext k
  by_cases hk : k = b + (n - 1 - v)
  · rw [hk, pk_us]
    unfold bcS
    rw [if_pos (by omega), show b + (n - 1 - v) - b = n - 1 - v by omega]
  · rw [pk_un hk]
    unfold bcS
    by_cases hc : b + n ≤ k + v ∧ k < b + n
    · rw [if_pos hc, if_pos (by omega)]
    · rw [if_neg hc, if_neg (by omega)]
theorem fc_s {A : Nat → Int32} {a b n v : Nat} (hv : v < n) (h : b ≤ a ∨ a + n ≤ b) : upd (fcS A a b v) (b + v) (fcS A a b v (a + v)) = fcS A a b (v + 1) := by
  have e : fcS A a b v (a + v) = A (a + v) := if_neg (by omega)
  rw [e]
  funext k
  by_cases hk : k = b + v
  · rw [hk, pk_us]
    unfold fcS
    rw [if_pos (by omega), show b + v - b = v by omega]
  · rw [pk_un hk]
    unfold fcS
    by_cases hc : b ≤ k ∧ k < b + v
    · rw [if_pos hc, if_pos (by omega)]
    · rw [if_neg hc, if_neg (by omega)]
theorem bc_n {A : Nat → Int32} {a b n : Nat} : bcS A a b n n = va_cpy A A a b n := by
  funext k
  unfold bcS va_cpy
  by_cases hc : b ≤ k ∧ k < b + n
  · rw [if_pos hc, if_pos (by omega)]
  · rw [if_neg hc, if_neg (by omega)]
theorem fc_n {A : Nat → Int32} {a b n : Nat} : fcS A a b n = va_cpy A A a b n := rfl
theorem bc_0 {A : Nat → Int32} {a b n : Nat} : bcS A a b n 0 = A := by
  funext k
  exact if_neg (by omega)
theorem fc_0 {A : Nat → Int32} {a b : Nat} : fcS A a b 0 = A := by
  funext k
  exact if_neg (by omega)
theorem copy_1 {σ : St} {d e a b z : Nat} (hd : d < 8) (he : e < 8) (ha : a + z < 100) (hb : b + z < 100) (x5 : Int32) (rec : Int32 → St → Option (Int32 × St)) (v : Nat) : f_X9_copy_147 (nI d) (nI a) (nI e) (nI b) x5 rec (nI v) (nI z) σ = rec (nI (v + 1)) (up σ 74 (100 * e + b + z) (σ 74 (100 * d + a + z))) := by
  rw [f_X9_copy_147_e, off_eq, off_eq, nI_add, nI_add, if_pos (inb_nI (by omega) (by decide)), if_pos (inb_nI (by omega) (by decide)), nI_clamp (n := 100 * d + a + z) (by omega), nI_clamp (n := 100 * e + b + z) (by omega), nI_1]
theorem copy_r {σ : St} {d e a b n : Nat} (hd : d < 8) (he : e < 8) (ha : a + n ≤ 100) (hb : b + n ≤ 100) : f_X9_copy_122 (nI d) (nI a) (nI e) (nI b) (nI n) fu 0 σ = some (nI n, upc σ 74 (va_cpy (σ 74) (σ 74) (100 * d + a) (100 * e + b) n)) := by
  by_cases hc : a ≤ b
  · have h : 100 * d + a ≤ 100 * e + b ∨ 100 * e + b + n ≤ 100 * d + a := by omega
    have q := loop_q (fun f τ v => f_X9_copy_122 (nI d) (nI a) (nI e) (nI b) (nI n) f (nI v) τ) (fun v => upc σ 74 (bcS (σ 74) (100 * d + a) (100 * e + b) n v)) n (some (nI n, upc σ 74 (va_cpy (σ 74) (σ 74) (100 * d + a) (100 * e + b) n))) ?_ ?_ fu (fu_gt (by omega))
    · rw [bc_0, upc_id] at q
      exact q
    · intro f v hv
      show f_X9_copy_122 (nI d) (nI a) (nI e) (nI b) (nI n) (f + 1) (nI v) _ = f_X9_copy_122 (nI d) (nI a) (nI e) (nI b) (nI n) f (nI (v + 1)) _
      have ez : nI n - (1 : Int32) - nI v = nI (n - 1 - v) := by
        rw [show nI n - (1 : Int32) = nI (n - 1) from pk_sub (a := n) (b := 1) (by omega), pk_sub (by omega)]
      rw [f_X9_copy_122_s, if_neg (nI_ge hv (by omega)), if_pos (nI_le hc (by omega)), ez, copy_1 hd he (by omega) (by omega), upc_up, upc_s, bc_s hv h]
    · intro f
      show f_X9_copy_122 (nI d) (nI a) (nI e) (nI b) (nI n) (f + 1) (nI n) _ = _
      rw [f_X9_copy_122_s, if_pos (nI_le (Nat.le_refl n) (by omega)), bc_n]
  · have h : 100 * e + b ≤ 100 * d + a ∨ 100 * d + a + n ≤ 100 * e + b := by omega
    have q := loop_q (fun f τ v => f_X9_copy_122 (nI d) (nI a) (nI e) (nI b) (nI n) f (nI v) τ) (fun v => upc σ 74 (fcS (σ 74) (100 * d + a) (100 * e + b) v)) n (some (nI n, upc σ 74 (va_cpy (σ 74) (σ 74) (100 * d + a) (100 * e + b) n))) ?_ ?_ fu (fu_gt (by omega))
    · rw [fc_0, upc_id] at q
      exact q
    · intro f v hv
      show f_X9_copy_122 (nI d) (nI a) (nI e) (nI b) (nI n) (f + 1) (nI v) _ = f_X9_copy_122 (nI d) (nI a) (nI e) (nI b) (nI n) f (nI (v + 1)) _
      rw [f_X9_copy_122_s, if_neg (nI_ge hv (by omega)), if_neg (nI_ge (by omega) (by omega)), copy_1 hd he (by omega) (by omega), upc_up, upc_s, fc_s hv h]
    · intro f
      show f_X9_copy_122 (nI d) (nI a) (nI e) (nI b) (nI n) (f + 1) (nI n) _ = _
      rw [f_X9_copy_122_s, if_pos (nI_le (Nat.le_refl n) (by omega)), fc_n]
/-- what a shelf holds, as both sides ask -/
theorem held {σ : St} {d : Nat} (h : SR σ d) : (f_X5_isEmpty (2 + 2 * d) σ = true ∧ σ 69 d = 0) ∨ (f_X5_isEmpty (2 + 2 * d) σ = false ∧ f_X5_hasRow (2 + 2 * d) σ = false ∧ σ 69 d = 1 ∧ σ (2 + 2 * d) 2 = -1) ∨ ∃ s n : Nat, SR2 σ d s n ∧ f_X5_isEmpty (2 + 2 * d) σ = false ∧ f_X5_hasRow (2 + 2 * d) σ = true ∧ σ 69 d = 2 := by
  unfold f_X5_isEmpty f_X5_hasRow
  rcases h with ⟨h1, h2, h3⟩ | ⟨a, b, ha, hb, h1, h2, h3, h4, -⟩ | ⟨s, n, h⟩
  · rw [if_pos h1, if_pos h2]
    exact Or.inl ⟨rfl, h3⟩
  · rw [if_pos h1, h2, if_neg (small_ne a ha), if_pos h1]
    exact Or.inr (Or.inl ⟨rfl, rfl, h4, h1⟩)
  · refine Or.inr (Or.inr ⟨s, n, h, ?_, ?_, h.2.2.2.2.2.1⟩)
    · rw [h.sz.2.2.1, if_neg (small_ne s (by have := h.1; omega))]
    · rw [h.sz.2.2.1, if_neg (small_ne s (by have := h.1; omega))]
theorem p_copy {σ : St} (h : Inv σ) (x1 x2 x3 x4 x5 : Int32) : ∃ r σ1 σ2, f_X8_copy x1 x2 x3 x4 x5 σ = some (r, σ1) ∧ f_X9_copy x1 x2 x3 x4 x5 σ1 = some (r, σ2) ∧ Inv σ2 := by
  unfold f_X8_copy
  by_cases hx : isN x1 8
  · obtain ⟨d, hd, rfl⟩ := hx
    rw [shelfAt_y hd]
    show ∃ r σ1 σ2, ob (f_X8_shelfAt x3 σ) _ = some (r, σ1) ∧ _
    by_cases hy : isN x3 8
    · obtain ⟨e, he, rfl⟩ := hy
      rw [shelfAt_y he]
      have bd : inb (nI d) 8 := inb_nI hd (by decide)
      have be : inb (nI e) 8 := inb_nI he (by decide)
      show ∃ r σ1 σ2, (if f_X5_isEmpty (2 + 2 * d) σ = true then _ else _) = some (r, σ1) ∧ _
      rcases held (h.2.2 d hd) with ⟨u1, u2⟩ | ⟨u1, u3, u2, u4⟩ | ⟨s, n, u0, u1, u3, u2⟩
      · rw [u1, if_pos rfl]
        refine ⟨_, _, σ, rfl, ?_, h⟩
        unfold f_X9_copy
        rw [if_pos (shelf_y hd), if_pos (shelf_y he), if_pos bd, atd (σ := σ) 69 hd, u2, if_pos rfl]
      · rw [u1, if_neg (by decide)]
        rcases held (h.2.2 e he) with ⟨v1, v2⟩ | ⟨v1, v3, v2, v4⟩ | ⟨s', n', v0, v1, v3, v2⟩
        · rw [v1, if_pos rfl]
          refine ⟨_, _, σ, rfl, ?_, h⟩
          unfold f_X9_copy
          rw [if_pos (shelf_y hd), if_pos (shelf_y he), if_pos bd, atd (σ := σ) 69 hd, u2, if_neg (by decide), if_pos be, atd (σ := σ) 69 he, v2, if_pos rfl]
        · rw [v1, if_neg (by decide), u3, if_neg (by decide)]
          refine ⟨_, _, σ, rfl, ?_, h⟩
          unfold f_X9_copy
          rw [if_pos (shelf_y hd), if_pos (shelf_y he), if_pos bd, atd (σ := σ) 69 hd, u2, if_neg (by decide), if_pos be, atd (σ := σ) 69 he, v2, if_neg (by decide), if_pos bd, if_neg (by decide)]
        · rw [v1, if_neg (by decide), u3, if_neg (by decide)]
          refine ⟨_, _, σ, rfl, ?_, h⟩
          unfold f_X9_copy
          rw [if_pos (shelf_y hd), if_pos (shelf_y he), if_pos bd, atd (σ := σ) 69 hd, u2, if_neg (by decide), if_pos be, atd (σ := σ) 69 he, v2, if_neg (by decide), if_pos bd, if_neg (by decide)]
      · rw [u1, if_neg (by decide)]
        rcases held (h.2.2 e he) with ⟨v1, v2⟩ | ⟨v1, v3, v2, v4⟩ | ⟨s', n', v0, v1, v3, v2⟩
        · rw [v1, if_pos rfl]
          refine ⟨_, _, σ, rfl, ?_, h⟩
          unfold f_X9_copy
          rw [if_pos (shelf_y hd), if_pos (shelf_y he), if_pos bd, atd (σ := σ) 69 hd, u2, if_neg (by decide), if_pos be, atd (σ := σ) 69 he, v2, if_pos rfl]
        · rw [v1, if_neg (by decide), u3, if_pos rfl, u0.sz.2.2.1, v4, if_neg (small_ne s (by have := u0.1; omega))]
          refine ⟨_, _, σ, rfl, ?_, h⟩
          unfold f_X9_copy
          rw [if_pos (shelf_y hd), if_pos (shelf_y he), if_pos bd, atd (σ := σ) 69 hd, u2, if_neg (by decide), if_pos be, atd (σ := σ) 69 he, v2, if_neg (by decide), if_pos bd, if_pos rfl, if_pos be, if_neg (by decide)]
        · have hn := u0.2.1
          have hn' := v0.2.1
          have r1 : f_X9_copy (nI d) x2 (nI e) x4 x5 σ = if nI s = nI s' then (if x5 < 0 then (some ((-13 : Int32), σ)) else (if x2 < 0 then (some ((-13 : Int32), σ)) else (if x4 < 0 then (some ((-13 : Int32), σ)) else (if nI n - x2 < x5 then (some ((-13 : Int32), σ)) else (if x5 ≤ nI n' - x4 then (f_X9_copy_122 (nI d) x2 (nI e) x4 x5 fu (0 : Int32) σ) else (some ((-13 : Int32), σ))))))) else some ((-12 : Int32), σ) := by
            unfold f_X9_copy
            rw [if_pos (shelf_y hd), if_pos (shelf_y he), if_pos bd, atd (σ := σ) 69 hd, u2, if_neg (by decide), if_pos be, atd (σ := σ) 69 he, v2, if_neg (by decide), if_pos bd, if_pos rfl, if_pos be, if_pos rfl, if_pos bd, if_pos be, if_pos bd, if_pos be, atd (σ := σ) 72 hd, atd (σ := σ) 72 he, atd (σ := σ) 73 hd, atd (σ := σ) 73 he, u0.sz.2.2.2, v0.sz.2.2.2, u0.sz.2.1, v0.sz.2.1]
          rw [v1, if_neg (by decide), u3, if_pos rfl, u0.sz.2.2.1, v0.sz.2.2.1]
          by_cases hs : nI s = nI s'
          · rw [if_pos hs] at r1 ⊢
            have no13 : (¬ ∃ a b c : Nat, x2 = nI a ∧ x4 = nI b ∧ x5 = nI c ∧ a + c ≤ n ∧ b + c ≤ n') → f_X9_copy (nI d) x2 (nI e) x4 x5 σ = some (-13, σ) := by
              intro hno
              rw [r1]
              by_cases c1 : x5 < 0
              · rw [if_pos c1]
              · rw [if_neg c1]
                by_cases c2 : x2 < 0
                · rw [if_pos c2]
                · rw [if_neg c2]
                  by_cases c3 : x4 < 0
                  · rw [if_pos c3]
                  · rw [if_neg c3]
                    obtain ⟨a, ha, rfl⟩ := nI_of c2
                    obtain ⟨b, hb, rfl⟩ := nI_of c3
                    obtain ⟨c, hc, rfl⟩ := nI_of c1
                    by_cases c4 : nI n - nI a < nI c
                    · rw [if_pos c4]
                    · rw [if_neg c4]
                      by_cases c5 : nI c ≤ nI n' - nI b
                      · exfalso
                        rw [i32_lt, sub_nn hn ha, nI_toInt hc] at c4
                        rw [i32_le, sub_nn hn' hb, nI_toInt hc] at c5
                        exact hno ⟨a, b, c, rfl, rfl, rfl, by omega, by omega⟩
                      · rw [if_neg c5]
            by_cases k1 : f_X5_hasStretch (2 + 2 * d) x2 x5 σ = true
            · rw [if_pos k1]
              obtain ⟨a, c, hac, rfl, rfl⟩ := (str_iff hn u0.sz.1).mp k1
              by_cases k2 : f_X5_hasStretch (2 + 2 * e) x4 (nI c) σ = true
              · rw [if_pos k2]
                obtain ⟨b, c', hbc, rfl, ec⟩ := (str_iff hn' v0.sz.1).mp k2
                rw [nI_eq (by omega) (by omega)] at ec
                subst ec
                rw [nI_clamp (n := a) (by omega), nI_clamp (n := b) (by omega), nI_clamp (n := c) (by omega), if_pos ⟨nI_n0 (by omega), nI_n0 (by omega), nI_n0 (by omega), by omega, by omega⟩]
                have es : s = s' := (nI_eq (by have := u0.1; omega) (by have := v0.1; omega)).mp hs
                subst es
                have kn : ∀ i : Nat, i ≠ 3 + 2 * e → (upc σ (2 + 2 * e + 1) (va_cpy (σ (2 + 2 * d + 1)) (σ (2 + 2 * e + 1)) a b c)) i = σ i := fun i hi => upc_n (by omega)
                refine ⟨nI c, _, upc (upc σ (2 + 2 * e + 1) (va_cpy (σ (2 + 2 * d + 1)) (σ (2 + 2 * e + 1)) a b c)) 74 (va_cpy (σ 74) (σ 74) (100 * d + a) (100 * e + b) c), rfl, ?_, ?_⟩
                · have r2 : ∀ τ : St, (∀ i : Nat, 69 ≤ i → i ≤ 74 → τ i = σ i) → f_X9_copy (nI d) (nI a) (nI e) (nI b) (nI c) τ = f_X9_copy_122 (nI d) (nI a) (nI e) (nI b) (nI c) fu 0 τ := by
                    intro τ hτ
                    unfold f_X9_copy
                    rw [if_pos (shelf_y hd), if_pos (shelf_y he), if_pos bd, atd (σ := τ) 69 hd, hτ 69 (by decide) (by decide), u2, if_neg (by decide), if_pos be, atd (σ := σ) 69 he, v2, if_neg (by decide), if_pos bd, if_pos rfl, if_pos be, if_pos rfl, if_pos bd, if_pos be, if_pos bd, if_pos be, atd (σ := τ) 72 hd, atd (σ := τ) 72 he, atd (σ := τ) 73 hd, atd (σ := τ) 73 he, hτ 72 (by decide) (by decide), hτ 73 (by decide) (by decide), u0.sz.2.2.2, v0.sz.2.2.2, u0.sz.2.1, v0.sz.2.1, if_pos rfl, if_neg (nI_n0 (k := c) (by omega)), if_neg (nI_n0 (k := a) (by omega)), if_neg (nI_n0 (k := b) (by omega)), pk_sub (by omega), pk_sub (by omega), if_neg (nI_nlt (by omega) (by omega)), if_pos (nI_le (by omega) (by omega))]
                  rw [r2 _ (fun i a b => kn i (by omega)), copy_r hd he (by omega) (by omega), kn 74 (by omega)]
                · refine h.shelf he (fun i a b c => by rw [upc_n (by omega), kn i b]) (fun i e' a b c he' => by rw [upc_n (by omega), kn i (by omega)]) (fun j hj => ?_) (Or.inr (Or.inr ⟨s, n', ?_⟩))
                  · rw [upc_s]
                    exact if_neg (by omega)
                  · obtain ⟨g1, g2, g3, g4, g5, g6, g7, g8, g9, g10⟩ := v0
                    have n3 : upc (upc σ (2 + 2 * e + 1) (va_cpy (σ (2 + 2 * d + 1)) (σ (2 + 2 * e + 1)) a b c)) 74 (va_cpy (σ 74) (σ 74) (100 * d + a) (100 * e + b) c) (3 + 2 * e) = va_cpy (σ (3 + 2 * d)) (σ (3 + 2 * e)) a b c := by rw [upc_n (by omega), ← e32, ← e32, upc_s]
                    have nn : ∀ i : Nat, i ≠ 74 → i ≠ 3 + 2 * e → upc (upc σ (2 + 2 * e + 1) (va_cpy (σ (2 + 2 * d + 1)) (σ (2 + 2 * e + 1)) a b c)) 74 (va_cpy (σ 74) (σ 74) (100 * d + a) (100 * e + b) c) i = σ i := fun i p q => by rw [upc_n p, kn i q]
                    refine ⟨g1, g2, by rw [nn _ (by omega) (by omega)]; exact g3, by rw [nn _ (by omega) (by omega)]; exact g4, by rw [nn _ (by omega) (by omega)]; exact g5, by rw [nn 69 (by decide) (by omega)]; exact g6, by rw [nn 72 (by decide) (by omega)]; exact g7, by rw [nn 73 (by decide) (by omega)]; exact g8, fun i hi => ?_, fun h0 i hi => ?_⟩
                    · rw [n3, upc_s]
                      by_cases hc : b ≤ i ∧ i < b + c
                      · rw [pk_cpy_in hc.1 hc.2, pk_cpy_in (by omega) (by omega), show 100 * d + a + (100 * e + i - (100 * e + b)) = 100 * d + (a + (i - b)) by omega]
                        exact u0.el (by omega)
                      · rw [pk_cpy_out (by omega), pk_cpy_out (by omega)]
                        exact g9 i hi
                    · rw [n3]
                      by_cases hc : b ≤ i ∧ i < b + c
                      · rw [pk_cpy_in hc.1 hc.2]
                        exact u0.2.2.2.2.2.2.2.2.2 h0 _ (by omega)
                      · rw [pk_cpy_out (by omega)]
                        exact g10 h0 i hi
              · rw [if_neg k2]
                refine ⟨_, _, σ, rfl, no13 ?_, h⟩
                rintro ⟨a', b, c', e1, rfl, e3, q1, q2⟩
                exact k2 ((str_iff hn' v0.sz.1).mpr ⟨b, c', q2, rfl, e3⟩)
            · rw [if_neg k1]
              refine ⟨_, _, σ, rfl, no13 ?_, h⟩
              rintro ⟨a, b, c, rfl, rfl, rfl, q1, q2⟩
              exact k1 ((str_iff hn u0.sz.1).mpr ⟨a, c, q1, rfl, rfl⟩)
          · rw [if_neg hs] at r1 ⊢
            exact ⟨_, _, σ, rfl, r1, h⟩
    · rw [shelfAt_n hy]
      refine ⟨_, _, σ, rfl, ?_, h⟩
      unfold f_X9_copy
      rw [if_pos (shelf_y hd), no_if shelf_iff hy]
  · rw [shelfAt_n hx]
    refine ⟨-1, σ, σ, ?_, ?_, h⟩
    · show ob (f_X8_shelfAt x3 σ) _ = _
      by_cases hy : isN x3 8
      · obtain ⟨e, he, rfl⟩ := hy
        rw [shelfAt_y he]
        rfl
      · rw [shelfAt_n hy]
        rfl
    · unfold f_X9_copy
      rw [no_if shelf_iff hx]
