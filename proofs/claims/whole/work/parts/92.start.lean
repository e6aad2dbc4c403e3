/-! THE LAW'S START: what the tables say of the classes -/
theorem st_prim {args : Array Value} {s : State} {ty : FieldType} (h : (Cond.arrayClass ty).before args s = true) : ∃ cA : ClassId, ArrOfT s cA ty ∧ s.vm.findClass ("[" ++ ty.toString) = some cA := by
  obtain ⟨c, k, comp, h1, h2, h3⟩ := Cond.arrayClass_spec h
  exact ⟨c, fun n z => ⟨fun k h => (by cases h), k, h2, comp, h3⟩, h1⟩
theorem st_ref {args : Array Value} {s : State} {C : String} (h : (Cond.arrayOver (.object C)).before args s = true) : ∃ cA : ClassId, ArrOfT s cA (.object C) ∧ va_RA s cA (.object C) := by
  obtain ⟨comp, c, k, h1, -, h3, h4, h5⟩ := Cond.arrayOver_spec h
  exact ⟨c, fun n z => ⟨fun k h => (by cases h), k, h3, comp, h4⟩, k, comp, h3, h4, h1, h5⟩
theorem st_K {s : State} {b : Nat} (hts : ∀ w ∈ lw_tbl, w.before #[Value.ref b] s = true) : ∃ (D : va_G) (C : Nat → ClassId), va_K D vwCl [(C 0, .int), (C 1, .object RX1), (C 2, .object RX5), (C 3, .long)] s := by
  obtain ⟨c0, i0, k0⟩ := u_known (C := RX0) (T := TX0) (N := 5) (n := 5) hts inX0 (hts (.instantiable RX0 5) (by decide +kernel))
  obtain ⟨c1, i1, k1⟩ := u_known (C := RX1) (T := TX1) (N := 7) (n := 7) hts inX1 (hts (.instantiable RX1 7) (by decide +kernel))
  obtain ⟨c2, i2, k2⟩ := u_known (C := RX5) (T := TX5) (N := 5) (n := 5) hts inX5 (hts (.instantiable RX5 5) (by decide +kernel))
  obtain ⟨c3, i3, k3⟩ := u_known (C := RX7) (T := TX7) (N := 4) (n := 4) hts inX7 (hts (.instantiable RX7 4) (by decide +kernel))
  obtain ⟨c4, i4, k4⟩ := u_known (C := RX8) (T := TX8) (N := 7) (n := 7) hts inX8 (hts (.instantiable RX8 7) (by decide +kernel))
  obtain ⟨c5, i5, k5⟩ := u_known (C := RX9) (T := TX9) (N := 21) (n := 21) hts inX9 (hts (.instantiable RX9 21) (by decide +kernel))
  obtain ⟨a0, e0, f0⟩ := st_prim (hts (.arrayClass .int) (by decide +kernel))
  obtain ⟨a1, e1, f1⟩ := st_ref (hts (.arrayOver (.object RX1)) (by decide +kernel))
  obtain ⟨a2, e2, f2⟩ := st_ref (hts (.arrayOver (.object RX5)) (by decide +kernel))
  obtain ⟨a3, e3, f3⟩ := st_prim (hts (.arrayClass .long) (by decide +kernel))
  refine ⟨(fun k => if k = 0 then c0 else if k = 1 then c1 else if k = 2 then c2 else if k = 3 then c3 else if k = 4 then c4 else c5, fun k => if k = 0 then i0 else if k = 1 then i1 else if k = 2 then i2 else if k = 3 then i3 else if k = 4 then i4 else i5), fun k => if k = 0 then a0 else if k = 1 then a1 else if k = 2 then a2 else a3, ?_, ?_⟩
  · intro k q hq
    match k, hq with
    | 0, hq => cases hq; exact k0
    | 1, hq => cases hq; exact k1
    | 2, hq => cases hq; exact k2
    | 3, hq => cases hq; exact k3
    | 4, hq => cases hq; exact k4
    | 5, hq => cases hq; exact k5
    | k + 6, hq => simp [vwCl] at hq
  · intro k q hq
    match k, hq with
    | 0, hq => cases hq; exact ⟨e0, f0⟩
    | 1, hq => cases hq; exact ⟨e1, f1⟩
    | 2, hq => cases hq; exact ⟨e2, f2⟩
    | 3, hq => cases hq; exact ⟨e3, f3⟩
    | k + 4, hq => simp at hq
theorem st_nest : ∀ w ∈ nestW, w ∈ lw_tbl := by decide +kernel
theorem st_exc : ∀ w ∈ excW, w ∈ lw_tbl := by decide +kernel
theorem isNest_on {w : Cond} (h : isNest w = true) : w.onTables = true := by
  cases w <;> first | rfl | (exfalso; exact absurd h (by simp [isNest]))
theorem st_Nw {s : State} {b : Nat} (hts : ∀ w ∈ lw_tbl, w.before #[Value.ref b] s = true) : Nw s := fun w hw => va_tabs (isNest_on (List.all_eq_true.mp nestW_ok w hw)) rfl (hts w (st_nest w hw))
theorem st_str {args : Array Value} {s : State} {own tx : String} {k : Nat} (h : (Cond.stringRef own k tx).before args s = true) : ∃ sa : Nat, vk_R own k tx sa s := by
  have hc : ∃ cur, s.vm.findClass own = some cur := by
    simp only [Cond.before, Cond.holds, Cond.value] at h
    cases hc : s.vm.findClass own with
    | none => simp [hc] at h
    | some cur => exact ⟨cur, rfl⟩
  obtain ⟨cur, hcur⟩ := hc
  obtain ⟨k, cf, i, a, -, -, -, -, -, hev⟩ := Cond.stringRef_spec (args := args) (first := s) (o := none) (idx := []) hcur h
  exact ⟨a, vk_R.of h hev⟩
theorem st_flags {l : Launch} (h : l.flags = flags0) : l.stackTraces = false := by
  unfold Launch.stackTraces
  rw [h]
  decide
theorem st_X {s : State} {b : Nat} {G : GT} (hts : ∀ w ∈ lw_tbl, w.before #[Value.ref b] s = true) (hgv : (Jvm.Cond.and given_1 narrow_1).before #[Value.ref b] s = true) (hgl : gL G = s.heap.size) : Xs G s := by
  have hs := flat_of_before _ hgv
  have hA : ∀ a : Nat, a < s.heap.size → ¬ AG G a := fun a h q => by
    have q : gL G ≤ a := q
    omega
  refine ⟨fun w hw => va_tabs (exc_on hw) rfl (hts w (st_exc w hw)), ⟨va_Nc.of (hs (.not (.castable "java/lang/IllegalStateException" "java/lang/UnsupportedOperationException")) (by decide +kernel)), va_Nc.of (hs (.not (.castable "java/lang/IllegalArgumentException" "java/lang/UnsupportedOperationException")) (by decide +kernel)), va_Nc.of (hs (.not (.castable "java/lang/IllegalArgumentException" "java/lang/IllegalStateException")) (by decide +kernel)), va_Nc.of (hs (.not (.castable "java/lang/IllegalStateException" "java/lang/IllegalArgumentException")) (by decide +kernel))⟩, ⟨st_str (hts (.stringRef RX4 11 "a GOOD one fails") (by decide +kernel)), st_str (hts (.stringRef RX4 18 "a HAND fails") (by decide +kernel)), st_str (hts (.stringRef RX4 23 "a DEED fails") (by decide +kernel)), st_str (hts (.stringRef RX8 309 "no such SHELF") (by decide +kernel)), st_str (hts (.stringRef RX8 320 "no ROW") (by decide +kernel)), st_str (hts (.stringRef RX8 323 "no such place") (by decide +kernel))⟩, ?_, ?_⟩
  · exact vx_Zqof (hts (.laysStatic Bundle.tN "UNASSIGNED_STACK" Bundle.steD) (by decide +kernel)) (hts (.initialized Bundle.tN) (by decide +kernel)) (hs (.isRef (.static Bundle.tN "UNASSIGNED_STACK" Bundle.steD)) (by decide +kernel)) hA
  · exact vx_Zqof (hts (.laysStatic Bundle.tN "SUPPRESSED_SENTINEL" Bundle.listD) (by decide +kernel)) (hts (.initialized Bundle.tN) (by decide +kernel)) (hs (.isRef (.static Bundle.tN "SUPPRESSED_SENTINEL" Bundle.listD)) (by decide +kernel)) hA
/-! THE LAW'S START: the state that the two constructors and the out row leave -/
def stV (C : Nat → ClassId) (q0 sa al y ty hy dr a c o1 p1 ta tc ha hc q1 q2 : Nat) (sh ce b tb hb2 m13 : Nat → Nat) : va_W := [(q0, .inr (4, [.ref sa, .ref al, .ref y, .ref ty, .ref hy, .int 0, .ref dr])), (sa, .inl (C 2, 8, .inr (.inr (.inr (.inr (fun j => some (sh j))))))), (sh 0, .inr (2, [.ref (ce 0), .int 0, .int (-1), .int (-1), .int 0])), (ce 0, .inl (C 0, 100, .inl (fun _ => 0))), (sh 1, .inr (2, [.ref (ce 1), .int 0, .int (-1), .int (-1), .int 0])), (ce 1, .inl (C 0, 100, .inl (fun _ => 0))), (sh 2, .inr (2, [.ref (ce 2), .int 0, .int (-1), .int (-1), .int 0])), (ce 2, .inl (C 0, 100, .inl (fun _ => 0))), (sh 3, .inr (2, [.ref (ce 3), .int 0, .int (-1), .int (-1), .int 0])), (ce 3, .inl (C 0, 100, .inl (fun _ => 0))), (sh 4, .inr (2, [.ref (ce 4), .int 0, .int (-1), .int (-1), .int 0])), (ce 4, .inl (C 0, 100, .inl (fun _ => 0))), (sh 5, .inr (2, [.ref (ce 5), .int 0, .int (-1), .int (-1), .int 0])), (ce 5, .inl (C 0, 100, .inl (fun _ => 0))), (sh 6, .inr (2, [.ref (ce 6), .int 0, .int (-1), .int (-1), .int 0])), (ce 6, .inl (C 0, 100, .inl (fun _ => 0))), (sh 7, .inr (2, [.ref (ce 7), .int 0, .int (-1), .int (-1), .int 0])), (ce 7, .inl (C 0, 100, .inl (fun _ => 0))), (al, .inr (0, [.ref y, .ref o1, .ref p1, .int 0, .int 0])), (o1, .inl (C 0, 10, .inl (fun _ => 0))), (p1, .inl (C 0, 10, .inl (fun _ => 0))), (y, .inr (3, [.ref a, .ref c, .int 0, .int 365])), (a, .inl (C 1, 10, .inr (.inr (.inr (.inr (fun j => some (b j))))))), (c, .inl (C 0, 5, .inl (fun _ => 0))), (b 0, .inr (1, [.int 0, .int 0, .int 0, .int 0, .int 0, .int 0, .int 0])), (b 1, .inr (1, [.int 0, .int 0, .int 0, .int 0, .int 0, .int 0, .int 0])), (b 2, .inr (1, [.int 0, .int 0, .int 0, .int 0, .int 0, .int 0, .int 0])), (b 3, .inr (1, [.int 0, .int 0, .int 0, .int 0, .int 0, .int 0, .int 0])), (b 4, .inr (1, [.int 0, .int 0, .int 0, .int 0, .int 0, .int 0, .int 0])), (b 5, .inr (1, [.int 0, .int 0, .int 0, .int 0, .int 0, .int 0, .int 0])), (b 6, .inr (1, [.int 0, .int 0, .int 0, .int 0, .int 0, .int 0, .int 0])), (b 7, .inr (1, [.int 0, .int 0, .int 0, .int 0, .int 0, .int 0, .int 0])), (b 8, .inr (1, [.int 0, .int 0, .int 0, .int 0, .int 0, .int 0, .int 0])), (b 9, .inr (1, [.int 0, .int 0, .int 0, .int 0, .int 0, .int 0, .int 0])), (ty, .inr (3, [.ref ta, .ref tc, .int 0, .int 365])), (ta, .inl (C 1, 10, .inr (.inr (.inr (.inr (fun j => some (tb j))))))), (tc, .inl (C 0, 5, .inl (fun _ => 0))), (tb 0, .inr (1, [.int 0, .int 0, .int 0, .int 0, .int 0, .int 0, .int 0])), (tb 1, .inr (1, [.int 0, .int 0, .int 0, .int 0, .int 0, .int 0, .int 0])), (tb 2, .inr (1, [.int 0, .int 0, .int 0, .int 0, .int 0, .int 0, .int 0])), (tb 3, .inr (1, [.int 0, .int 0, .int 0, .int 0, .int 0, .int 0, .int 0])), (tb 4, .inr (1, [.int 0, .int 0, .int 0, .int 0, .int 0, .int 0, .int 0])), (tb 5, .inr (1, [.int 0, .int 0, .int 0, .int 0, .int 0, .int 0, .int 0])), (tb 6, .inr (1, [.int 0, .int 0, .int 0, .int 0, .int 0, .int 0, .int 0])), (tb 7, .inr (1, [.int 0, .int 0, .int 0, .int 0, .int 0, .int 0, .int 0])), (tb 8, .inr (1, [.int 0, .int 0, .int 0, .int 0, .int 0, .int 0, .int 0])), (tb 9, .inr (1, [.int 0, .int 0, .int 0, .int 0, .int 0, .int 0, .int 0])), (hy, .inr (3, [.ref ha, .ref hc, .int 0, .int 365])), (ha, .inl (C 1, 10, .inr (.inr (.inr (.inr (fun j => some (hb2 j))))))), (hc, .inl (C 0, 5, .inl (fun _ => 0))), (hb2 0, .inr (1, [.int 0, .int 0, .int 0, .int 0, .int 0, .int 0, .int 0])), (hb2 1, .inr (1, [.int 0, .int 0, .int 0, .int 0, .int 0, .int 0, .int 0])), (hb2 2, .inr (1, [.int 0, .int 0, .int 0, .int 0, .int 0, .int 0, .int 0])), (hb2 3, .inr (1, [.int 0, .int 0, .int 0, .int 0, .int 0, .int 0, .int 0])), (hb2 4, .inr (1, [.int 0, .int 0, .int 0, .int 0, .int 0, .int 0, .int 0])), (hb2 5, .inr (1, [.int 0, .int 0, .int 0, .int 0, .int 0, .int 0, .int 0])), (hb2 6, .inr (1, [.int 0, .int 0, .int 0, .int 0, .int 0, .int 0, .int 0])), (hb2 7, .inr (1, [.int 0, .int 0, .int 0, .int 0, .int 0, .int 0, .int 0])), (hb2 8, .inr (1, [.int 0, .int 0, .int 0, .int 0, .int 0, .int 0, .int 0])), (hb2 9, .inr (1, [.int 0, .int 0, .int 0, .int 0, .int 0, .int 0, .int 0])), (dr, .inr (1, [.int 0, .int 0, .int 0, .int 0, .int 0, .int 0, .int 0])), (q1, .inr (5, [.ref (m13 0), .ref (m13 1), .ref (m13 2), .ref (m13 3), .int 0, .ref (m13 4), .ref (m13 5), .int 0, .int 0, .int 0, .int 0, .int 0, .ref (m13 6), .int 0, .ref (m13 7), .ref (m13 8), .ref (m13 9), .ref (m13 10), .ref (m13 11), .ref (m13 12), .int 0])), (m13 0, .inl (C 0, 52, .inl (upd (fun _ => 0) 1 365))), (m13 1, .inl (C 0, 52, .inl (fun _ => 0))), (m13 2, .inl (C 0, 52, .inl (fun _ => 0))), (m13 3, .inl (C 0, 52, .inl (fun _ => 0))), (m13 4, .inl (C 0, 10, .inl (fun _ => 0))), (m13 5, .inl (C 0, 10, .inl (fun _ => 0))), (m13 6, .inl (C 0, 5, .inl (fun _ => 0))), (m13 7, .inl (C 0, 8, .inl (fun _ => 0))), (m13 8, .inl (C 0, 8, .inl (fun _ => 0))), (m13 9, .inl (C 0, 8, .inl (fun _ => 0))), (m13 10, .inl (C 0, 8, .inl (fun _ => 0))), (m13 11, .inl (C 0, 8, .inl (fun _ => 0))), (m13 12, .inl (C 0, 800, .inl (fun _ => 0))), (q2, .inl (C 3, 1, .inr (.inl (fun _ => 0))))]
def st0 : St := fun i k => if i = 21 ∨ i = 34 ∨ i = 47 then (if k = 3 then 365 else 0) else if i = 62 then (if k = 1 then 365 else 0) else if kd i = 2 then (if k = 2 ∨ k = 3 then -1 else 0) else 0
theorem st0_z {i : Nat} (h1 : ¬ (i = 21 ∨ i = 34 ∨ i = 47)) (h2 : ¬ i = 62) (h3 : ¬ kd i = 2) : st0 i = fun _ => 0 := by
  funext k
  unfold st0
  rw [if_neg h1, if_neg h2, if_neg h3]
theorem st0_62 : st0 62 = upd (fun _ => 0) 1 365 := by
  funext k
  show (if k = 1 then (365 : Int32) else 0) = upd (fun _ => 0) 1 365 k
  by_cases h : k = 1
  · subst h; rw [if_pos rfl, pk_us]
  · rw [if_neg h, pk_un h]
theorem st_inv : Inv st0 := by
  refine ⟨⟨0, by omega, rfl, rfl, ⟨365, by omega, rfl⟩, rfl, fun k hk => absurd hk (by omega), fun k hk => absurd hk (by omega)⟩, Or.inl ⟨rfl, rfl⟩, fun d hd => Or.inl ?_⟩
  match d, hd with
  | 0, _ => exact ⟨rfl, rfl, rfl⟩
  | 1, _ => exact ⟨rfl, rfl, rfl⟩
  | 2, _ => exact ⟨rfl, rfl, rfl⟩
  | 3, _ => exact ⟨rfl, rfl, rfl⟩
  | 4, _ => exact ⟨rfl, rfl, rfl⟩
  | 5, _ => exact ⟨rfl, rfl, rfl⟩
  | 6, _ => exact ⟨rfl, rfl, rfl⟩
  | 7, _ => exact ⟨rfl, rfl, rfl⟩
  | n + 8, h => exact absurd h (by omega)
def stG (D : va_G) (C : Nat → ClassId) (w : va_W) (gl : Nat) : GT := (D, C, fun i => (w.map Prod.fst).getD i 0, gl)
theorem st_gA {D : va_G} {C : Nat → ClassId} {w : va_W} {gl : Nat} {i : Nat} {q : Nat × va_E} (h : w[i]? = some q) : gA (stG D C w gl) i = q.1 := by
  show (w.map Prod.fst).getD i 0 = q.1
  rw [List.getD_eq_getElem?_getD, List.getElem?_map, h]
  rfl
theorem st_D {D : va_G} {C : Nat → ClassId} {w : va_W} {gl : Nat} (hw : w.length = 76) (h : va_D (fun q => gl ≤ q) w) : Dw (stG D C w gl) := by
  have ex : ∀ i : Nat, i < 76 → ∃ q, w[i]? = some q := fun i hi => ⟨w[i], List.getElem?_eq_getElem (by omega)⟩
  refine ⟨fun i j hi hj e => ?_, fun i hi => ?_⟩
  · obtain ⟨p, hp⟩ := ex i hi
    obtain ⟨q, hq⟩ := ex j hj
    rw [st_gA hp, st_gA hq] at e
    exact h.1 i j p q hp hq e
  · obtain ⟨p, hp⟩ := ex i hi
    rw [st_gA hp]
    exact h.2 i p hp
theorem st_q {D : va_G} {cl : List vw_C} {H : Heap} {x n : Nat} {cA : ClassId} {f g : Nat → Option Nat} (hfg : ∀ k : Nat, k < n → f k = g k) (h : va_at D cl (x, .inl (cA, n, .inr (.inr (.inr (.inr f))))) H) : va_at D cl (x, .inl (cA, n, .inr (.inr (.inr (.inr g))))) H := by
  have e1 : vp_cell cA (n, .inr (.inr (.inr (.inr f)))) = vp_cell cA (n, .inr (.inr (.inr (.inr g)))) := by
    rw [vp_cell_q, vp_cell_q]
    exact arrV_cg (fun j hj => by rw [hfg j hj])
  show H[x]? = some (vp_cell cA (n, .inr (.inr (.inr (.inr g)))))
  rw [← e1]
  exact h
set_option maxRecDepth 100000 in
set_option maxHeartbeats 4000000 in
theorem st_P {D : va_G} {C : Nat → ClassId} {H : Heap} {gl : Nat} (q0 sa al y ty hy dr a c o1 p1 ta tc ha hc q1 q2 : Nat) (sh ce b tb hb2 m13 : Nat → Nat) (h : va_P D vwCl (stV C q0 sa al y ty hy dr a c o1 p1 ta tc ha hc q1 q2 sh ce b tb hb2 m13) H) : Pw (stG D C (stV C q0 sa al y ty hy dr a c o1 p1 ta tc ha hc q1 q2 sh ce b tb hb2 m13) gl) st0 H := by
  intro k q hq
  obtain ⟨hk, rfl⟩ := wsG_in hq
  match k, hk with
  | 0, _ =>
    have h := h 0 _ rfl
    rw [cellE_4 (i := 0) rfl]
    exact h
  | 1, _ =>
    have h := h 1 _ rfl
    rw [cellE_8 (i := 1) rfl]
    refine st_q (fun j hj => ?_) h
    match j, hj with
    | 0, _ => rfl
    | 1, _ => rfl
    | 2, _ => rfl
    | 3, _ => rfl
    | 4, _ => rfl
    | 5, _ => rfl
    | 6, _ => rfl
    | 7, _ => rfl
    | n + 8, h => exact absurd h (by omega)
  | 2, _ =>
    have h := h 2 _ rfl
    rw [cellE_2 (i := 2) rfl]
    exact h
  | 3, _ =>
    have h := h 3 _ rfl
    rw [cellE_6 (i := 3) rfl]
    rw [st0_z (i := 3) (by decide) (by decide) (by decide)]
    exact h
  | 4, _ =>
    have h := h 4 _ rfl
    rw [cellE_2 (i := 4) rfl]
    exact h
  | 5, _ =>
    have h := h 5 _ rfl
    rw [cellE_6 (i := 5) rfl]
    rw [st0_z (i := 5) (by decide) (by decide) (by decide)]
    exact h
  | 6, _ =>
    have h := h 6 _ rfl
    rw [cellE_2 (i := 6) rfl]
    exact h
  | 7, _ =>
    have h := h 7 _ rfl
    rw [cellE_6 (i := 7) rfl]
    rw [st0_z (i := 7) (by decide) (by decide) (by decide)]
    exact h
  | 8, _ =>
    have h := h 8 _ rfl
    rw [cellE_2 (i := 8) rfl]
    exact h
  | 9, _ =>
    have h := h 9 _ rfl
    rw [cellE_6 (i := 9) rfl]
    rw [st0_z (i := 9) (by decide) (by decide) (by decide)]
    exact h
  | 10, _ =>
    have h := h 10 _ rfl
    rw [cellE_2 (i := 10) rfl]
    exact h
  | 11, _ =>
    have h := h 11 _ rfl
    rw [cellE_6 (i := 11) rfl]
    rw [st0_z (i := 11) (by decide) (by decide) (by decide)]
    exact h
  | 12, _ =>
    have h := h 12 _ rfl
    rw [cellE_2 (i := 12) rfl]
    exact h
  | 13, _ =>
    have h := h 13 _ rfl
    rw [cellE_6 (i := 13) rfl]
    rw [st0_z (i := 13) (by decide) (by decide) (by decide)]
    exact h
  | 14, _ =>
    have h := h 14 _ rfl
    rw [cellE_2 (i := 14) rfl]
    exact h
  | 15, _ =>
    have h := h 15 _ rfl
    rw [cellE_6 (i := 15) rfl]
    rw [st0_z (i := 15) (by decide) (by decide) (by decide)]
    exact h
  | 16, _ =>
    have h := h 16 _ rfl
    rw [cellE_2 (i := 16) rfl]
    exact h
  | 17, _ =>
    have h := h 17 _ rfl
    rw [cellE_6 (i := 17) rfl]
    rw [st0_z (i := 17) (by decide) (by decide) (by decide)]
    exact h
  | 18, _ =>
    have h := h 18 _ rfl
    rw [cellE_0 (i := 18) rfl]
    exact h
  | 19, _ =>
    have h := h 19 _ rfl
    rw [cellE_6 (i := 19) rfl]
    rw [st0_z (i := 19) (by decide) (by decide) (by decide)]
    exact h
  | 20, _ =>
    have h := h 20 _ rfl
    rw [cellE_6 (i := 20) rfl]
    rw [st0_z (i := 20) (by decide) (by decide) (by decide)]
    exact h
  | 21, _ =>
    have h := h 21 _ rfl
    rw [cellE_3 (i := 21) rfl]
    exact h
  | 22, _ =>
    have h := h 22 _ rfl
    rw [cellE_7 (i := 22) rfl]
    refine st_q (fun j hj => ?_) h
    match j, hj with
    | 0, _ => rfl
    | 1, _ => rfl
    | 2, _ => rfl
    | 3, _ => rfl
    | 4, _ => rfl
    | 5, _ => rfl
    | 6, _ => rfl
    | 7, _ => rfl
    | 8, _ => rfl
    | 9, _ => rfl
    | n + 10, h => exact absurd h (by omega)
  | 23, _ =>
    have h := h 23 _ rfl
    rw [cellE_6 (i := 23) rfl]
    rw [st0_z (i := 23) (by decide) (by decide) (by decide)]
    exact h
  | 24, _ =>
    have h := h 24 _ rfl
    rw [cellE_1 (i := 24) rfl]
    exact h
  | 25, _ =>
    have h := h 25 _ rfl
    rw [cellE_1 (i := 25) rfl]
    exact h
  | 26, _ =>
    have h := h 26 _ rfl
    rw [cellE_1 (i := 26) rfl]
    exact h
  | 27, _ =>
    have h := h 27 _ rfl
    rw [cellE_1 (i := 27) rfl]
    exact h
  | 28, _ =>
    have h := h 28 _ rfl
    rw [cellE_1 (i := 28) rfl]
    exact h
  | 29, _ =>
    have h := h 29 _ rfl
    rw [cellE_1 (i := 29) rfl]
    exact h
  | 30, _ =>
    have h := h 30 _ rfl
    rw [cellE_1 (i := 30) rfl]
    exact h
  | 31, _ =>
    have h := h 31 _ rfl
    rw [cellE_1 (i := 31) rfl]
    exact h
  | 32, _ =>
    have h := h 32 _ rfl
    rw [cellE_1 (i := 32) rfl]
    exact h
  | 33, _ =>
    have h := h 33 _ rfl
    rw [cellE_1 (i := 33) rfl]
    exact h
  | 34, _ =>
    have h := h 34 _ rfl
    rw [cellE_3 (i := 34) rfl]
    exact h
  | 35, _ =>
    have h := h 35 _ rfl
    rw [cellE_7 (i := 35) rfl]
    refine st_q (fun j hj => ?_) h
    match j, hj with
    | 0, _ => rfl
    | 1, _ => rfl
    | 2, _ => rfl
    | 3, _ => rfl
    | 4, _ => rfl
    | 5, _ => rfl
    | 6, _ => rfl
    | 7, _ => rfl
    | 8, _ => rfl
    | 9, _ => rfl
    | n + 10, h => exact absurd h (by omega)
  | 36, _ =>
    have h := h 36 _ rfl
    rw [cellE_6 (i := 36) rfl]
    rw [st0_z (i := 36) (by decide) (by decide) (by decide)]
    exact h
  | 37, _ =>
    have h := h 37 _ rfl
    rw [cellE_1 (i := 37) rfl]
    exact h
  | 38, _ =>
    have h := h 38 _ rfl
    rw [cellE_1 (i := 38) rfl]
    exact h
  | 39, _ =>
    have h := h 39 _ rfl
    rw [cellE_1 (i := 39) rfl]
    exact h
  | 40, _ =>
    have h := h 40 _ rfl
    rw [cellE_1 (i := 40) rfl]
    exact h
  | 41, _ =>
    have h := h 41 _ rfl
    rw [cellE_1 (i := 41) rfl]
    exact h
  | 42, _ =>
    have h := h 42 _ rfl
    rw [cellE_1 (i := 42) rfl]
    exact h
  | 43, _ =>
    have h := h 43 _ rfl
    rw [cellE_1 (i := 43) rfl]
    exact h
  | 44, _ =>
    have h := h 44 _ rfl
    rw [cellE_1 (i := 44) rfl]
    exact h
  | 45, _ =>
    have h := h 45 _ rfl
    rw [cellE_1 (i := 45) rfl]
    exact h
  | 46, _ =>
    have h := h 46 _ rfl
    rw [cellE_1 (i := 46) rfl]
    exact h
  | 47, _ =>
    have h := h 47 _ rfl
    rw [cellE_3 (i := 47) rfl]
    exact h
  | 48, _ =>
    have h := h 48 _ rfl
    rw [cellE_7 (i := 48) rfl]
    refine st_q (fun j hj => ?_) h
    match j, hj with
    | 0, _ => rfl
    | 1, _ => rfl
    | 2, _ => rfl
    | 3, _ => rfl
    | 4, _ => rfl
    | 5, _ => rfl
    | 6, _ => rfl
    | 7, _ => rfl
    | 8, _ => rfl
    | 9, _ => rfl
    | n + 10, h => exact absurd h (by omega)
  | 49, _ =>
    have h := h 49 _ rfl
    rw [cellE_6 (i := 49) rfl]
    rw [st0_z (i := 49) (by decide) (by decide) (by decide)]
    exact h
  | 50, _ =>
    have h := h 50 _ rfl
    rw [cellE_1 (i := 50) rfl]
    exact h
  | 51, _ =>
    have h := h 51 _ rfl
    rw [cellE_1 (i := 51) rfl]
    exact h
  | 52, _ =>
    have h := h 52 _ rfl
    rw [cellE_1 (i := 52) rfl]
    exact h
  | 53, _ =>
    have h := h 53 _ rfl
    rw [cellE_1 (i := 53) rfl]
    exact h
  | 54, _ =>
    have h := h 54 _ rfl
    rw [cellE_1 (i := 54) rfl]
    exact h
  | 55, _ =>
    have h := h 55 _ rfl
    rw [cellE_1 (i := 55) rfl]
    exact h
  | 56, _ =>
    have h := h 56 _ rfl
    rw [cellE_1 (i := 56) rfl]
    exact h
  | 57, _ =>
    have h := h 57 _ rfl
    rw [cellE_1 (i := 57) rfl]
    exact h
  | 58, _ =>
    have h := h 58 _ rfl
    rw [cellE_1 (i := 58) rfl]
    exact h
  | 59, _ =>
    have h := h 59 _ rfl
    rw [cellE_1 (i := 59) rfl]
    exact h
  | 60, _ =>
    have h := h 60 _ rfl
    rw [cellE_1 (i := 60) rfl]
    exact h
  | 61, _ =>
    have h := h 61 _ rfl
    rw [cellE_5 (i := 61) rfl]
    exact h
  | 62, _ =>
    have h := h 62 _ rfl
    rw [cellE_6 (i := 62) rfl]
    rw [st0_62]
    exact h
  | 63, _ =>
    have h := h 63 _ rfl
    rw [cellE_6 (i := 63) rfl]
    rw [st0_z (i := 63) (by decide) (by decide) (by decide)]
    exact h
  | 64, _ =>
    have h := h 64 _ rfl
    rw [cellE_6 (i := 64) rfl]
    rw [st0_z (i := 64) (by decide) (by decide) (by decide)]
    exact h
  | 65, _ =>
    have h := h 65 _ rfl
    rw [cellE_6 (i := 65) rfl]
    rw [st0_z (i := 65) (by decide) (by decide) (by decide)]
    exact h
  | 66, _ =>
    have h := h 66 _ rfl
    rw [cellE_6 (i := 66) rfl]
    rw [st0_z (i := 66) (by decide) (by decide) (by decide)]
    exact h
  | 67, _ =>
    have h := h 67 _ rfl
    rw [cellE_6 (i := 67) rfl]
    rw [st0_z (i := 67) (by decide) (by decide) (by decide)]
    exact h
  | 68, _ =>
    have h := h 68 _ rfl
    rw [cellE_6 (i := 68) rfl]
    rw [st0_z (i := 68) (by decide) (by decide) (by decide)]
    exact h
  | 69, _ =>
    have h := h 69 _ rfl
    rw [cellE_6 (i := 69) rfl]
    rw [st0_z (i := 69) (by decide) (by decide) (by decide)]
    exact h
  | 70, _ =>
    have h := h 70 _ rfl
    rw [cellE_6 (i := 70) rfl]
    rw [st0_z (i := 70) (by decide) (by decide) (by decide)]
    exact h
  | 71, _ =>
    have h := h 71 _ rfl
    rw [cellE_6 (i := 71) rfl]
    rw [st0_z (i := 71) (by decide) (by decide) (by decide)]
    exact h
  | 72, _ =>
    have h := h 72 _ rfl
    rw [cellE_6 (i := 72) rfl]
    rw [st0_z (i := 72) (by decide) (by decide) (by decide)]
    exact h
  | 73, _ =>
    have h := h 73 _ rfl
    rw [cellE_6 (i := 73) rfl]
    rw [st0_z (i := 73) (by decide) (by decide) (by decide)]
    exact h
  | 74, _ =>
    have h := h 74 _ rfl
    rw [cellE_6 (i := 74) rfl]
    rw [st0_z (i := 74) (by decide) (by decide) (by decide)]
    exact h
  | 75, _ =>
    have h := h 75 _ rfl
    rw [cellE_9 (i := 75) rfl]
    exact h
  | n + 76, h => exact absurd h (by omega)
