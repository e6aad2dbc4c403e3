/-! PURE: put, copy -/
theorem b8_rng (z : Int32) : -128 ≤ z.toInt8.toInt32.toInt ∧ z.toInt8.toInt32.toInt ≤ 127 := by
  rw [Int8.toInt_toInt32]
  have h1 := Int8.le_toInt z.toInt8
  have h2 := Int8.toInt_lt z.toInt8
  constructor <;> omega
theorem put_below {σ : St} {d s n : Nat} {y : Int32} (q : SR2 σ d s n) : (f_X8_isBelow y (nI n) = true ↔ isN y n) ∧ (f_X9_isIn y 0 (nI n - 1) = true ↔ isN y n) := by
  have hn := q.2.1
  refine ⟨below_iff n (by omega), ?_⟩
  by_cases h0 : n = 0
  · subst h0
    rw [isIn_iff]
    have e1 : (0 : Int32).toInt = 0 := rfl
    have e2 : (nI 0 - 1).toInt = -1 := rfl
    rw [e1, e2]
    constructor
    · intro h; omega
    · rintro ⟨j, hj, -⟩; omega
  · obtain ⟨m, rfl⟩ : ∃ m, n = m + 1 := ⟨n - 1, by omega⟩
    rw [nI_pred]
    exact isIn0_iff m (by omega)
theorem put_val {s : Nat} (hs : s < 3) {α : Type} (a b c : α) : (if nI s = 0 then a else (if nI s = 1 then b else c)) = if s = 0 then a else if s = 1 then b else c := by
  have : s = 0 ∨ s = 1 ∨ s = 2 := by omega
  rcases this with rfl | rfl | rfl
  · rfl
  · rfl
  · rfl
theorem lt100 {k : Nat} (h : k < 100) : nI k < (100 : Int32) := nI_lt (b := 100) h (by decide)
def vlS (s : Nat) (z : Int32) : Int32 := if s = 0 then z.toInt8.toInt32 else if s = 1 then z.toInt16.toInt32 else z
theorem put_c {σ : St} {d s n j : Nat} {z : Int32} (q : SR2 σ d s n) (hj : j < n) : f_X5_set (2 + 2 * d) (nI j) z σ = some (up σ (3 + 2 * d) j (vlS s z)) := by
  have hn := q.2.1
  have hb : inb (nI j) 100 := inb_nI (by omega) (by decide)
  unfold f_X5_set vlS
  rw [if_neg (nI_n0 (by omega)), q.sz.1, if_neg (nI_ge hj (by omega)), if_pos (lt100 (by omega)), q.sz.2.2.1, if_pos hb, if_pos hb, if_pos hb, put_val q.1, nI_clamp (n := j) (by omega), e32]
  split
  · rfl
  · split <;> rfl
theorem p_put {σ : St} (h : Inv σ) (x y z : Int32) : ∃ r σ1 σ2, f_X8_put x y z σ = some (r, σ1) ∧ f_X9_put x y z σ1 = some (r, σ2) ∧ Inv σ2 := by
  unfold f_X8_put
  by_cases hx : isN x 8
  · obtain ⟨d, hd, rfl⟩ := hx
    rw [shelfAt_y hd]
    show ∃ r σ1 σ2, (if f_X8_rowRefusal (some (2 + 2 * d)) σ = 0 then _ else _) = some (r, σ1) ∧ _
    rcases row_two hd (h.2.2 d hd) with ⟨e1, e2⟩ | ⟨e1, e2⟩ | ⟨s, n, q, e1, e2, -⟩
    · rw [e1, if_neg (by decide)]
      refine ⟨_, _, σ, rfl, ?_, h⟩
      unfold f_X9_put
      rw [e2, ob_s, if_neg (by decide)]
    · rw [e1, if_neg (by decide)]
      refine ⟨_, _, σ, rfl, ?_, h⟩
      unfold f_X9_put
      rw [e2, ob_s, if_neg (by decide)]
    · have hn := q.2.1
      have hb8 : inb (nI d) 8 := inb_nI hd (by decide)
      rw [e1, if_pos rfl, q.sz.1]
      by_cases hy : isN y n
      · rw [yes_if (put_below q).1 hy]
        obtain ⟨j, hj, rfl⟩ := hy
        rw [put_c q hj, ob_s]
        have q1 : SR2 (up σ (3 + 2 * d) j (vlS s z)) d s n → True := fun _ => trivial
        have en : ∀ i : Nat, i ≠ 3 + 2 * d → up σ (3 + 2 * d) j (vlS s z) i = σ i := fun i hi => up_n hi
        have w1 : f_X9_wrongRow (nI d) (-1) (up σ (3 + 2 * d) j (vlS s z)) = some 0 := by
          rw [← e2]
          unfold f_X9_wrongRow
          rw [en 69 (by omega), en 72 (by omega)]
          rfl
        refine ⟨0, _, up (up σ (3 + 2 * d) j (vlS s z)) 74 (100 * d + j) (vlS s z), rfl, ?_, ?_⟩
        · have hoi : inb (((100 : Int32) * nI d) + nI j) 800 := off_in hd (by omega)
          unfold f_X9_put
          rw [w1, ob_s, if_pos rfl, if_pos hb8, atd (σ := up σ (3 + 2 * d) j (vlS s z)) 73 hd, en 73 (by omega), q.sz.2.1, yes_if (put_below q).2 ⟨j, hj, rfl⟩, if_pos hb8, if_pos hb8, atd (σ := up σ (3 + 2 * d) j (vlS s z)) 72 hd, en 72 (by omega), q.sz.2.2.2, put_val q.1, f_X9_put_75_e, f_X9_put_75_e, f_X9_put_75_e, if_pos hoi, if_pos hoi, if_pos hoi, off_cl hd (by omega)]
          show (if s = 0 then _ else if s = 1 then _ else _) = some (0, up (up σ (3 + 2 * d) j (vlS s z)) 74 (100 * d + j) (if s = 0 then z.toInt8.toInt32 else if s = 1 then z.toInt16.toInt32 else z))
          split
          · rfl
          · split <;> rfl
        · refine h.shelf hd (fun i a b c => by rw [up_n (by omega), up_n b]) (fun i e a b c he => by rw [up_n (by omega), up_n (by omega)]) (fun i hi => by rw [up_s, pk_un (by omega), up_n (by omega)]) (Or.inr (Or.inr ⟨s, n, ?_⟩))
          obtain ⟨g1, g2, g3, g4, g5, g6, g7, g8, g9, g10⟩ := q
          have n2 : up (up σ (3 + 2 * d) j (vlS s z)) 74 (100 * d + j) (vlS s z) (2 + 2 * d) = σ (2 + 2 * d) := by rw [up_n (by omega), up_n (by omega)]
          have n3 : up (up σ (3 + 2 * d) j (vlS s z)) 74 (100 * d + j) (vlS s z) (3 + 2 * d) = upd (σ (3 + 2 * d)) j (vlS s z) := by rw [up_n (by omega), up_s]
          have n74 : up (up σ (3 + 2 * d) j (vlS s z)) 74 (100 * d + j) (vlS s z) 74 = upd (σ 74) (100 * d + j) (vlS s z) := by rw [up_s, up_n (by omega)]
          have nn : ∀ i : Nat, i ≠ 74 → i ≠ 3 + 2 * d → up (up σ (3 + 2 * d) j (vlS s z)) 74 (100 * d + j) (vlS s z) i = σ i := fun i a b => by rw [up_n a, up_n b]
          refine ⟨g1, g2, by rw [n2]; exact g3, by rw [n2]; exact g4, by rw [n2]; exact g5, by rw [nn 69 (by decide) (by omega)]; exact g6, by rw [nn 72 (by decide) (by omega)]; exact g7, by rw [nn 73 (by decide) (by omega)]; exact g8, fun i hi => ?_, fun h0 i hi => ?_⟩
          · rw [n74, n3]
            by_cases hij : i = j
            · rw [hij, pk_us, pk_us]
            · rw [pk_un (by omega), pk_un hij, g9 i hi]
          · rw [n3]
            by_cases hij : i = j
            · rw [hij, pk_us]
              unfold vlS
              rw [if_pos h0]
              exact b8_rng z
            · rw [pk_un hij]
              exact g10 h0 i hi
      · rw [no_if (put_below q).1 hy]
        refine ⟨_, _, σ, rfl, ?_, h⟩
        unfold f_X9_put
        rw [e2, ob_s, if_pos rfl, if_pos hb8, atd (σ := σ) 73 hd, q.sz.2.1, no_if (put_below q).2 hy]
  · obtain ⟨e1, e2, e3, -⟩ := row_no (w := -1) (σ := σ) hx
    rw [e1]
    refine ⟨-1, σ, σ, rfl, ?_, h⟩
    unfold f_X9_put
    rw [e3]
    rfl
