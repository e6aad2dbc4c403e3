def f_X0_pageIn (x1 : Int32) (σ : St) : Option Int32 := (if x1 < 0 then (some (-4 : Int32)) else (if (σ 18 3) ≤ x1 then (some (-4 : Int32)) else (if (10 : Int32) ≤ x1 then (some (-4 : Int32)) else (if inb x1 10 then some (σ 20 x1.toNatClampNeg) else none))))
set_option maxRecDepth 100000 in
set_option maxHeartbeats 4000000 in
theorem t_X0_pageIn (l : Launch) (G : GT) (hG : Dw G) (x1 : Int32) (σ : St) (o : Int32) (hF : f_X0_pageIn x1 σ = some o) : Ct l G yX0_pageIn wsX0_pageIn 0 0 [.ref (gA G 18), .int x1] σ (some (.int o)) σ := by
  refine Met.ofW (cc := cX0_pageIn) (maxL := 2) (ret := (some .int)) (by decide) rfl ?_
  intro p e s m args below meth c s₁ B hml hv
  obtain ⟨rfl, hP, hK⟩ := hv
  have hx := B.exec
  have hb := B.bytes
  have hr := B.returns
  have hts := atoms_spec (ws := wsX0_pageIn) B.pre
  have hown : s.vm.findClass RX0 = some m.cls := findClass_of_methodNamed B.named
  have hlocks := B.notSynchronized
  have Z : CallFix p m c cX0_pageIn 2 s _ wsX0_pageIn RX0 := ⟨hx, hb, hml, hown, hts⟩
  have hS : va_S (AG G) s.heap s.heap [] := va_S.rf
  have inX0 : ∀ w ∈ u_ws RX0 TX0 5, w ∈ wsX0_pageIn := by decide +kernel
  have w1 := hts (.fieldLink RX0 25 "AlmanacOfTheYearGone$Almanac" "printed" "I") (by decide +kernel)
  have w2 := hts (.fieldLink RX0 22 "AlmanacOfTheYearGone$Almanac" "pageAt" "[I") (by decide +kernel)
  have hl := lv_entry ([.ref (gA G 18), .int x1]) (n := 2) (Nat.le_of_ble_eq_true rfl)
  rw [lg_entry_eq]
  generalize (lg_sl ([.ref (gA G 18), .int x1]) ++ List.replicate (2 - (lg_sl ([.ref (gA G 18), .int x1])).length) Slot.unset).toArray = ls at hl ⊢
  have hl : lv_has ls 2 [(0, .ref (gA G 18)), (1, .int x1)] := hl
  unfold f_X0_pageIn at hF
  refine lv_iload_n hx hb dX0_pageIn_0 rfl (lv_at hl 1 rfl) ?_
  refine lv_if_lt (tgt := 30) hx hb dX0_pageIn_1 (by decide) (fun c1 => ?_) (fun c1 => ?_)
  · have hF := ite_t c1 hF
    refine lv_bipush (v := -4) hx hb dX0_pageIn_30 (by decide) ?_
    exact e_iP hx hb hr hP hS hlocks dX0_pageIn_32 hF
  · have hF := ite_f c1 hF
    refine lv_iload_n hx hb dX0_pageIn_4 rfl (lv_at hl 1 rfl) ?_
    refine lv_aload_n hx hb dX0_pageIn_5 rfl (lv_at hl 0 rfl) ?_
    refine va_get (ci := 0) (C := RX0) (T := TX0) (N := 5) (v := .int (σ 18 3)) hx hb hts inX0 hown hK.1 hP 18 (at_0 rfl) rfl 3 (by decide) w1 (fun _ h9 => h9) rfl dX0_pageIn_6 ?_
    refine lv_icmp_ge (tgt := 30) hx hb dX0_pageIn_9 (by decide) (fun c2 => ?_) (fun c2 => ?_)
    · have hF := ite_t c2 hF
      refine lv_bipush (v := -4) hx hb dX0_pageIn_30 (by decide) ?_
      exact e_iP hx hb hr hP hS hlocks dX0_pageIn_32 hF
    · have hF := ite_f c2 hF
      refine lv_iload_n hx hb dX0_pageIn_12 rfl (lv_at hl 1 rfl) ?_
      refine lv_aload_n hx hb dX0_pageIn_13 rfl (lv_at hl 0 rfl) ?_
      refine va_get (ci := 0) (C := RX0) (T := TX0) (N := 5) (v := .ref (gA G 20)) hx hb hts inX0 hown hK.1 hP 18 (at_0 rfl) rfl 2 (by decide) w2 (fun _ h9 => h9) rfl dX0_pageIn_14 ?_
      refine va_alen (v := 10) hx hb hK.1 hP 20 0 (at_6 (rfl : kd 20 = 6) (rfl : ln 20 = 10)) rfl rfl dX0_pageIn_17 ?_
      refine lv_icmp_ge (tgt := 30) hx hb dX0_pageIn_18 (by decide) (fun c3 => ?_) (fun c3 => ?_)
      · have hF := ite_t c3 hF
        refine lv_bipush (v := -4) hx hb dX0_pageIn_30 (by decide) ?_
        exact e_iP hx hb hr hP hS hlocks dX0_pageIn_32 hF
      · have hF := ite_f c3 hF
        refine lv_aload_n hx hb dX0_pageIn_21 rfl (lv_at hl 0 rfl) ?_
        refine va_get (ci := 0) (C := RX0) (T := TX0) (N := 5) (v := .ref (gA G 20)) hx hb hts inX0 hown hK.1 hP 18 (at_0 rfl) rfl 2 (by decide) w2 (fun _ h9 => h9) rfl dX0_pageIn_22 ?_
        refine lv_iload_n hx hb dX0_pageIn_25 rfl (lv_at hl 1 rfl) ?_
        obtain ⟨b4, hF⟩ := ite_some hF
        refine va_iald hx hb hK.1 hP 20 0 (at_6 (rfl : kd 20 = 6) (rfl : ln 20 = 10)) rfl (inb_in b4) dX0_pageIn_26 ?_
        refine lv_goto (tgt := 32) hx hb dX0_pageIn_27 (by decide) ?_
        exact e_iP hx hb hr hP hS hlocks dX0_pageIn_32 hF
def f_X0_placeOf_2 (x1 : Int32) (σ : St) : Nat → (Int32 → Option Int32)
  | 0 => fun _ => none
  | fl + 1 => fun v2 => (if (σ 18 3) ≤ v2 then (some (-4 : Int32)) else (ob (f_X0_numberIn v2 σ) (fun q2 => if q2 = x1 then (some v2) else ((f_X0_placeOf_2 x1 σ fl) (v2 + (1 : Int32))))))
theorem f_X0_placeOf_2_s {x1 : Int32} {σ : St} (fl : Nat) {v2 : Int32} : f_X0_placeOf_2 x1 σ (fl + 1) v2 = (if (σ 18 3) ≤ v2 then (some (-4 : Int32)) else (ob (f_X0_numberIn v2 σ) (fun q2 => if q2 = x1 then (some v2) else ((f_X0_placeOf_2 x1 σ fl) (v2 + (1 : Int32)))))) := rfl
def f_X0_placeOf (x1 : Int32) (σ : St) : Option Int32 := (f_X0_placeOf_2 x1 σ fu (0 : Int32))
set_option maxRecDepth 100000 in
set_option maxHeartbeats 4000000 in
theorem t_X0_placeOf (l : Launch) (G : GT) (hG : Dw G) (x1 : Int32) (σ : St) (o : Int32) (hF : f_X0_placeOf x1 σ = some o) : Ct l G yX0_placeOf wsX0_placeOf 1 21 [.ref (gA G 18), .int x1] σ (some (.int o)) σ := by
  refine Met.ofW (cc := cX0_placeOf) (maxL := 3) (ret := (some .int)) (by decide) rfl ?_
  intro p e s m args below meth c s₁ B hml hv
  obtain ⟨rfl, hP, hK⟩ := hv
  have hx := B.exec
  have hb := B.bytes
  have hr := B.returns
  have hts := atoms_spec (ws := wsX0_placeOf) B.pre
  have hown : s.vm.findClass RX0 = some m.cls := findClass_of_methodNamed B.named
  have hlocks := B.notSynchronized
  have Z : CallFix p m c cX0_placeOf 3 s _ wsX0_placeOf RX0 := ⟨hx, hb, hml, hown, hts⟩
  have hS : va_S (AG G) s.heap s.heap [] := va_S.rf
  have inX0 : ∀ w ∈ u_ws RX0 TX0 5, w ∈ wsX0_placeOf := by decide +kernel
  have w1 := hts (.fieldLink RX0 25 "AlmanacOfTheYearGone$Almanac" "printed" "I") (by decide +kernel)
  have hl := lv_entry ([.ref (gA G 18), .int x1]) (n := 3) (Nat.le_of_ble_eq_true rfl)
  rw [lg_entry_eq]
  generalize (lg_sl ([.ref (gA G 18), .int x1]) ++ List.replicate (3 - (lg_sl ([.ref (gA G 18), .int x1])).length) Slot.unset).toArray = ls at hl ⊢
  have hl : lv_has ls 3 [(0, .ref (gA G 18)), (1, .int x1)] := hl
  unfold f_X0_placeOf at hF
  refine lv_iconst (v := 0) hx hb dX0_placeOf_0 (by decide) ?_
  have J2 : ∀ (fl : Nat) (v2 : Int32) (H : Heap) (locs : List Loc) (hP : Pw G σ H) (hS : va_S (AG G) s.heap H locs) (ls : Array Slot) (hl : lv_has ls 3 [(0, .ref (gA G 18)), (1, .int x1), (2, .int v2)]) (hF : f_X0_placeOf_2 x1 σ fl v2 = some o), W p l e (headSpec wsX0_placeOf ({ frames := 1, cells := 0, slots := 0, locals := 21 })).room s m ([.ref (gA G 18), .int x1] : List Value).toArray below meth c H locs 0 0 (MQ below (qR G (some (.int o)) σ) ([.ref (gA G 18), .int x1] : List Value).toArray s 0 0 (AG G)) (F0 m 2 ls []) := by
    intro fl2
    induction fl2 with
    | zero => intro v2 H locs hP hS ls hl hF; cases hF
    | succ fl2 ih2 =>
      intro v2 H locs hP hS ls hl hF
      rw [f_X0_placeOf_2_s] at hF
      refine lv_iload_n hx hb dX0_placeOf_2 rfl (lv_at hl 2 rfl) ?_
      refine lv_aload_n hx hb dX0_placeOf_3 rfl (lv_at hl 0 rfl) ?_
      refine va_get (ci := 0) (C := RX0) (T := TX0) (N := 5) (v := .int (σ 18 3)) hx hb hts inX0 hown hK.1 hP 18 (at_0 rfl) rfl 3 (by decide) w1 (fun _ h9 => h9) rfl dX0_placeOf_4 ?_
      refine lv_icmp_ge (tgt := 27) hx hb dX0_placeOf_7 (by decide) (fun c1 => ?_) (fun c1 => ?_)
      · have hF := ite_t c1 hF
        refine lv_bipush (v := -4) hx hb dX0_placeOf_27 (by decide) ?_
        exact e_iP hx hb hr hP hS hlocks dX0_placeOf_29 hF
      · have hF := ite_f c1 hF
        refine lv_aload_n hx hb dX0_placeOf_10 rfl (lv_at hl 0 rfl) ?_
        refine lv_iload_n hx hb dX0_placeOf_11 rfl (lv_at hl 2 rfl) ?_
        obtain ⟨q2, h3, hF⟩ := ob_some hF
        refine k_Vv (As := [.int v2]) (rest := []) Z hK hP hS (t_X0_numberIn l G hG v2 σ _ h3) (cwV 1 hts gX0_placeOf_X0_numberIn rfl rfl rfl (by decide +kernel) ⟨Nat.le_of_ble_eq_true rfl, Nat.le_of_ble_eq_true rfl⟩) (at_0 rfl) rfl rfl hl.1 rfl (Nat.le_of_ble_eq_true rfl) ⟨Nat.zero_le _, Nat.zero_le _⟩ dX0_placeOf_12 (fun H locs hP hS => ?_)
        refine lv_iload_n hx hb dX0_placeOf_15 rfl (lv_at hl 1 rfl) ?_
        refine lv_icmp_ne (tgt := 21) hx hb dX0_placeOf_16 (by decide) (fun c4 => ?_) (fun c4 => ?_)
        · have hF := ite_f c4 hF
          refine lv_iinc (v := (v2 + (1 : Int32))) (lv' := [(2, .int (v2 + (1 : Int32))), (0, .ref (gA G 18)), (1, .int x1)]) hx hb dX0_placeOf_21 hl (k := 2) rfl rfl (by decide) rfl (fun ls hl => ?_)
          refine lv_goto (tgt := 2) hx hb dX0_placeOf_24 (by decide) ?_
          exact ih2 (v2 + (1 : Int32)) _ _ hP hS ls (lv_sub hl [1, 2, 0] rfl) hF
        · have hF := ite_t c4 hF
          refine lv_iload_n hx hb dX0_placeOf_19 rfl (lv_at hl 2 rfl) ?_
          exact e_iP hx hb hr hP hS hlocks dX0_placeOf_20 hF
  refine lv_istore_n (lv' := [(2, .int (0 : Int32)), (0, .ref (gA G 18)), (1, .int x1)]) hx hb dX0_placeOf_1 rfl hl (by decide) rfl (fun ls hl => ?_)
  exact J2 fu (0 : Int32) _ _ hP hS ls (lv_sub hl [1, 2, 0] rfl) hF
def f_X0_pageOf (x1 : Int32) (σ : St) : Option Int32 := (ob (f_X0_placeOf x1 σ) (fun q1 => ob (f_X0_pageIn q1 σ) (fun q3 => some q3)))
set_option maxRecDepth 100000 in
set_option maxHeartbeats 4000000 in
theorem t_X0_pageOf (l : Launch) (G : GT) (hG : Dw G) (x1 : Int32) (σ : St) (o : Int32) (hF : f_X0_pageOf x1 σ = some o) : Ct l G yX0_pageOf wsX0_pageOf 2 43 [.ref (gA G 18), .int x1] σ (some (.int o)) σ := by
  refine Met.ofW (cc := cX0_pageOf) (maxL := 2) (ret := (some .int)) (by decide) rfl ?_
  intro p e s m args below meth c s₁ B hml hv
  obtain ⟨rfl, hP, hK⟩ := hv
  have hx := B.exec
  have hb := B.bytes
  have hr := B.returns
  have hts := atoms_spec (ws := wsX0_pageOf) B.pre
  have hown : s.vm.findClass RX0 = some m.cls := findClass_of_methodNamed B.named
  have hlocks := B.notSynchronized
  have Z : CallFix p m c cX0_pageOf 2 s _ wsX0_pageOf RX0 := ⟨hx, hb, hml, hown, hts⟩
  have hS : va_S (AG G) s.heap s.heap [] := va_S.rf
  have hl := lv_entry ([.ref (gA G 18), .int x1]) (n := 2) (Nat.le_of_ble_eq_true rfl)
  rw [lg_entry_eq]
  generalize (lg_sl ([.ref (gA G 18), .int x1]) ++ List.replicate (2 - (lg_sl ([.ref (gA G 18), .int x1])).length) Slot.unset).toArray = ls at hl ⊢
  have hl : lv_has ls 2 [(0, .ref (gA G 18)), (1, .int x1)] := hl
  unfold f_X0_pageOf at hF
  refine lv_aload_n hx hb dX0_pageOf_0 rfl (lv_at hl 0 rfl) ?_
  refine lv_aload_n hx hb dX0_pageOf_1 rfl (lv_at hl 0 rfl) ?_
  refine lv_iload_n hx hb dX0_pageOf_2 rfl (lv_at hl 1 rfl) ?_
  obtain ⟨q1, h2, hF⟩ := ob_some hF
  refine k_Vv (As := [.int x1]) (rest := [.ref (gA G 18)]) Z hK hP hS (t_X0_placeOf l G hG x1 σ _ h2) (cwV 1 hts gX0_pageOf_X0_placeOf rfl rfl rfl (by decide +kernel) ⟨Nat.le_of_ble_eq_true rfl, Nat.le_of_ble_eq_true rfl⟩) (at_0 rfl) rfl rfl hl.1 rfl (Nat.le_of_ble_eq_true rfl) ⟨Nat.zero_le _, Nat.zero_le _⟩ dX0_pageOf_3 (fun H locs hP hS => ?_)
  obtain ⟨q3, h4, hF⟩ := ob_some hF
  refine k_Vv (As := [.int q1]) (rest := []) Z hK hP hS (t_X0_pageIn l G hG q1 σ _ h4) (cwV 1 hts gX0_pageOf_X0_pageIn rfl rfl rfl (by decide +kernel) ⟨Nat.le_of_ble_eq_true rfl, Nat.le_of_ble_eq_true rfl⟩) (at_0 rfl) rfl rfl hl.1 rfl (Nat.le_of_ble_eq_true rfl) ⟨Nat.zero_le _, Nat.zero_le _⟩ dX0_pageOf_6 (fun H locs hP hS => ?_)
  exact e_iP hx hb hr hP hS hlocks dX0_pageOf_9 hF
def f_X0_greatestBy_61 (x1 : Int32) (σ : St) (rec8 : Int32 → Int32 → Int32 → Option Int32) (v2 : Int32) (v3 : Int32) (v4 : Int32) : Option Int32 := (rec8 v2 v3 (v4 + (1 : Int32)))
theorem f_X0_greatestBy_61_e {x1 : Int32} {σ : St} {rec8 : Int32 → Int32 → Int32 → Option Int32} {v2 : Int32} {v3 : Int32} {v4 : Int32} : f_X0_greatestBy_61 x1 σ rec8 v2 v3 v4 = (rec8 v2 v3 (v4 + (1 : Int32))) := rfl
def f_X0_greatestBy_8 (x1 : Int32) (σ : St) : Nat → (Int32 → Int32 → Int32 → Option Int32)
  | 0 => fun _ _ _ => none
  | fl + 1 => fun v2 v3 v4 => (if (σ 18 3) ≤ v4 then (some v2) else (ob (f_X0_deedIn v4 σ) (fun q2 => oc q2 ((f_X0_greatestBy_61 x1 σ (f_X0_greatestBy_8 x1 σ fl) v2 v3 v4)) (fun i4 => (if (σ i4 3) = x1 then (if (f_X1_size i4 σ) ≤ v3 then f_X0_greatestBy_61 x1 σ (f_X0_greatestBy_8 x1 σ fl) v2 v3 v4 else (ob (f_X0_numberIn v4 σ) (fun q7 => f_X0_greatestBy_61 x1 σ (f_X0_greatestBy_8 x1 σ fl) q7 (f_X1_size i4 σ) v4))) else f_X0_greatestBy_61 x1 σ (f_X0_greatestBy_8 x1 σ fl) v2 v3 v4)))))
theorem f_X0_greatestBy_8_s {x1 : Int32} {σ : St} (fl : Nat) {v2 : Int32} {v3 : Int32} {v4 : Int32} : f_X0_greatestBy_8 x1 σ (fl + 1) v2 v3 v4 = (if (σ 18 3) ≤ v4 then (some v2) else (ob (f_X0_deedIn v4 σ) (fun q2 => oc q2 ((f_X0_greatestBy_61 x1 σ (f_X0_greatestBy_8 x1 σ fl) v2 v3 v4)) (fun i4 => (if (σ i4 3) = x1 then (if (f_X1_size i4 σ) ≤ v3 then f_X0_greatestBy_61 x1 σ (f_X0_greatestBy_8 x1 σ fl) v2 v3 v4 else (ob (f_X0_numberIn v4 σ) (fun q7 => f_X0_greatestBy_61 x1 σ (f_X0_greatestBy_8 x1 σ fl) q7 (f_X1_size i4 σ) v4))) else f_X0_greatestBy_61 x1 σ (f_X0_greatestBy_8 x1 σ fl) v2 v3 v4))))) := rfl
def f_X0_greatestBy (x1 : Int32) (σ : St) : Option Int32 := (f_X0_greatestBy_8 x1 σ fu (-4 : Int32) (-1 : Int32) (0 : Int32))
set_option maxRecDepth 100000 in
set_option maxHeartbeats 4000000 in
theorem t_X0_greatestBy (l : Launch) (G : GT) (hG : Dw G) (x1 : Int32) (σ : St) (o : Int32) (hF : f_X0_greatestBy x1 σ = some o) : Ct l G yX0_greatestBy wsX0_greatestBy 2 43 [.ref (gA G 18), .int x1] σ (some (.int o)) σ := by
  refine Met.ofW (cc := cX0_greatestBy) (maxL := 6) (ret := (some .int)) (by decide) rfl ?_
  intro p e s m args below meth c s₁ B hml hv
  obtain ⟨rfl, hP, hK⟩ := hv
  have hx := B.exec
  have hb := B.bytes
  have hr := B.returns
  have hts := atoms_spec (ws := wsX0_greatestBy) B.pre
  have hown : s.vm.findClass RX0 = some m.cls := findClass_of_methodNamed B.named
  have hlocks := B.notSynchronized
  have Z : CallFix p m c cX0_greatestBy 6 s _ wsX0_greatestBy RX0 := ⟨hx, hb, hml, hown, hts⟩
  have hS : va_S (AG G) s.heap s.heap [] := va_S.rf
  have inX0 : ∀ w ∈ u_ws RX0 TX0 5, w ∈ wsX0_greatestBy := by decide +kernel
  have inX1 : ∀ w ∈ u_ws RX1 TX1 7, w ∈ wsX0_greatestBy := by decide +kernel
  have w1 := hts (.fieldLink RX0 25 "AlmanacOfTheYearGone$Almanac" "printed" "I") (by decide +kernel)
  have w2n : va_Nw (.fieldLinkNest "AlmanacOfTheYearGone$Almanac" 75 "AlmanacOfTheYearGone$Deed" "who" "I" "AlmanacOfTheYearGone") s := hK.2 _ (List.mem_of_getElem? (i := 19) rfl)
  have w2 := va_Nw.use (A := [.ref (gA G 18), .int x1].toArray) rfl w2n
  have w3 := hts (.initialized RX1) (by decide +kernel)
  have w4n : va_Nw (.methodLinkNest "AlmanacOfTheYearGone$Almanac" 58 ⟨"AlmanacOfTheYearGone$Deed", "size", "()I"⟩ "AlmanacOfTheYearGone") s := hK.2 _ (List.mem_of_getElem? (i := 69) rfl)
  have w4 := va_Nw.use (A := [.ref (gA G 18), .int x1].toArray) rfl w4n
  have w5 := hts (.instanceMethod yX1_size) (by decide +kernel)
  have w6 := hts (.selects RX1 yX1_size yX1_size) (by decide +kernel)
  have hl := lv_entry ([.ref (gA G 18), .int x1]) (n := 6) (Nat.le_of_ble_eq_true rfl)
  rw [lg_entry_eq]
  generalize (lg_sl ([.ref (gA G 18), .int x1]) ++ List.replicate (6 - (lg_sl ([.ref (gA G 18), .int x1])).length) Slot.unset).toArray = ls at hl ⊢
  have hl : lv_has ls 6 [(0, .ref (gA G 18)), (1, .int x1)] := hl
  unfold f_X0_greatestBy at hF
  refine lv_bipush (v := -4) hx hb dX0_greatestBy_0 (by decide) ?_
  refine lv_istore_n (lv' := [(2, .int (-4 : Int32)), (0, .ref (gA G 18)), (1, .int x1)]) hx hb dX0_greatestBy_2 rfl hl (by decide) rfl (fun ls hl => ?_)
  refine lv_iconst (v := -1) hx hb dX0_greatestBy_3 (by decide) ?_
  refine lv_istore_n (lv' := [(3, .int (-1 : Int32)), (2, .int (-4 : Int32)), (0, .ref (gA G 18)), (1, .int x1)]) hx hb dX0_greatestBy_4 rfl hl (by decide) rfl (fun ls hl => ?_)
  refine lv_iconst (v := 0) hx hb dX0_greatestBy_5 (by decide) ?_
  have J8 : ∀ (fl : Nat) (v2 : Int32) (v3 : Int32) (v4 : Int32) (H : Heap) (locs : List Loc) (hP : Pw G σ H) (hS : va_S (AG G) s.heap H locs) (ls : Array Slot) (hl : lv_has ls 6 [(0, .ref (gA G 18)), (1, .int x1), (2, .int v2), (3, .int v3), (4, .int v4)]) (hF : f_X0_greatestBy_8 x1 σ fl v2 v3 v4 = some o), W p l e (headSpec wsX0_greatestBy ({ frames := 2, cells := 0, slots := 0, locals := 43 })).room s m ([.ref (gA G 18), .int x1] : List Value).toArray below meth c H locs 0 0 (MQ below (qR G (some (.int o)) σ) ([.ref (gA G 18), .int x1] : List Value).toArray s 0 0 (AG G)) (F0 m 8 ls []) := by
    intro fl8
    induction fl8 with
    | zero => intro v2 v3 v4 H locs hP hS ls hl hF; cases hF
    | succ fl8 ih8 =>
      intro v2 v3 v4 H locs hP hS ls hl hF
      rw [f_X0_greatestBy_8_s] at hF
      refine lv_iload hx hb dX0_greatestBy_8 (lv_at hl 4 rfl) ?_
      refine lv_aload_n hx hb dX0_greatestBy_10 rfl (lv_at hl 0 rfl) ?_
      refine va_get (ci := 0) (C := RX0) (T := TX0) (N := 5) (v := .int (σ 18 3)) hx hb hts inX0 hown hK.1 hP 18 (at_0 rfl) rfl 3 (by decide) w1 (fun _ h9 => h9) rfl dX0_greatestBy_11 ?_
      refine lv_icmp_ge (tgt := 67) hx hb dX0_greatestBy_14 (by decide) (fun c1 => ?_) (fun c1 => ?_)
      · have hF := ite_t c1 hF
        refine lv_iload_n hx hb dX0_greatestBy_67 rfl (lv_at hl 2 rfl) ?_
        exact e_iP hx hb hr hP hS hlocks dX0_greatestBy_68 hF
      · have hF := ite_f c1 hF
        refine lv_aload_n hx hb dX0_greatestBy_17 rfl (lv_at hl 0 rfl) ?_
        refine lv_iload hx hb dX0_greatestBy_18 (lv_at hl 4 rfl) ?_
        obtain ⟨q2, h3, hF⟩ := ob_some hF
        refine k_Vv (As := [.int v4]) (rest := []) Z hK hP hS (t_X0_deedIn l G hG v4 σ _ h3) (cwV 1 hts gX0_greatestBy_X0_deedIn rfl rfl rfl (by decide +kernel) ⟨Nat.le_of_ble_eq_true rfl, Nat.le_of_ble_eq_true rfl⟩) (at_0 rfl) rfl rfl hl.1 rfl (Nat.le_of_ble_eq_true rfl) ⟨Nat.zero_le _, Nat.zero_le _⟩ dX0_greatestBy_20 (fun H locs hP hS => ?_)
        rcases q2 with _ | i4
        · have hF := oc_n hF
          refine W.eq (g2 := F0 m 23 ls [.null]) rfl ?_
          refine lv_astoreN (lv' := [(5, .null), (0, .ref (gA G 18)), (1, .int x1), (2, .int v2), (3, .int v3), (4, .int v4)]) hx hb dX0_greatestBy_23 hl (by decide) rfl (fun ls hl => ?_)
          refine lv_aloadN hx hb dX0_greatestBy_25 (lv_at hl 0 rfl) ?_
          have J61 : ∀ (v2 : Int32) (v3 : Int32) (v4 : Int32) (H : Heap) (locs : List Loc) (hP : Pw G σ H) (hS : va_S (AG G) s.heap H locs) (ls : Array Slot) (hl : lv_has ls 6 [(0, .ref (gA G 18)), (1, .int x1), (2, .int v2), (3, .int v3), (4, .int v4)]) (hF : f_X0_greatestBy_61 x1 σ (f_X0_greatestBy_8 x1 σ fl8) v2 v3 v4 = some o), W p l e (headSpec wsX0_greatestBy ({ frames := 2, cells := 0, slots := 0, locals := 43 })).room s m ([.ref (gA G 18), .int x1] : List Value).toArray below meth c H locs 0 0 (MQ below (qR G (some (.int o)) σ) ([.ref (gA G 18), .int x1] : List Value).toArray s 0 0 (AG G)) (F0 m 61 ls []) := by
            intro v2 v3 v4 H locs hP hS ls hl hF
            rw [f_X0_greatestBy_61_e] at hF
            refine lv_iinc (v := (v4 + (1 : Int32))) (lv' := [(4, .int (v4 + (1 : Int32))), (0, .ref (gA G 18)), (1, .int x1), (2, .int v2), (3, .int v3)]) hx hb dX0_greatestBy_61 hl (k := 4) rfl rfl (by decide) rfl (fun ls hl => ?_)
            refine lv_goto (tgt := 8) hx hb dX0_greatestBy_64 (by decide) ?_
            exact ih8 v2 v3 (v4 + (1 : Int32)) _ _ hP hS ls (lv_sub hl [1, 2, 3, 4, 0] rfl) hF
          refine lv_ifnullN (tgt := 61) hx hb dX0_greatestBy_27 (by decide) ?_
          exact J61 v2 v3 v4 _ _ hP hS ls (lv_sub hl [1, 2, 3, 4, 5] rfl) hF
        · have hF := oc_s hF
          have ki4 : kd i4 = 1 := q_X0_deedIn  h3
          refine W.eq (g2 := F0 m 23 ls [.ref (gA G i4)]) rfl ?_
          refine lv_astore (lv' := [(5, .ref (gA G i4)), (0, .ref (gA G 18)), (1, .int x1), (2, .int v2), (3, .int v3), (4, .int v4)]) hx hb dX0_greatestBy_23 hl (by decide) rfl (fun ls hl => ?_)
          refine lv_aload hx hb dX0_greatestBy_25 (lv_at hl 0 rfl) ?_
          have J61 : ∀ (v2 : Int32) (v3 : Int32) (v4 : Int32) (H : Heap) (locs : List Loc) (hP : Pw G σ H) (hS : va_S (AG G) s.heap H locs) (ls : Array Slot) (hl : lv_has ls 6 [(0, .ref (gA G 18)), (1, .int x1), (2, .int v2), (3, .int v3), (4, .int v4)]) (hF : f_X0_greatestBy_61 x1 σ (f_X0_greatestBy_8 x1 σ fl8) v2 v3 v4 = some o), W p l e (headSpec wsX0_greatestBy ({ frames := 2, cells := 0, slots := 0, locals := 43 })).room s m ([.ref (gA G 18), .int x1] : List Value).toArray below meth c H locs 0 0 (MQ below (qR G (some (.int o)) σ) ([.ref (gA G 18), .int x1] : List Value).toArray s 0 0 (AG G)) (F0 m 61 ls []) := by
            intro v2 v3 v4 H locs hP hS ls hl hF
            rw [f_X0_greatestBy_61_e] at hF
            refine lv_iinc (v := (v4 + (1 : Int32))) (lv' := [(4, .int (v4 + (1 : Int32))), (0, .ref (gA G 18)), (1, .int x1), (2, .int v2), (3, .int v3)]) hx hb dX0_greatestBy_61 hl (k := 4) rfl rfl (by decide) rfl (fun ls hl => ?_)
            refine lv_goto (tgt := 8) hx hb dX0_greatestBy_64 (by decide) ?_
            exact ih8 v2 v3 (v4 + (1 : Int32)) _ _ hP hS ls (lv_sub hl [1, 2, 3, 4, 0] rfl) hF
          refine lv_ifnull hx hb dX0_greatestBy_27 ?_
          refine lv_aload hx hb dX0_greatestBy_30 (lv_at hl 0 rfl) ?_
          refine va_getN (ci := 1) (C := RX1) (T := TX1) (N := 7) (v := .int (σ i4 3)) hx hb hts inX1 hown hK.1 hP i4 (at_1 ki4) rfl 3 (by decide) w2 (fun _ h9 => h9) rfl dX0_greatestBy_32 ?_
          refine lv_iload_n hx hb dX0_greatestBy_35 rfl (lv_at hl 2 rfl) ?_
          refine lv_icmp_ne (tgt := 61) hx hb dX0_greatestBy_36 (by decide) (fun c5 => ?_) (fun c5 => ?_)
          · have hF := ite_f c5 hF
            exact J61 v2 v3 v4 _ _ hP hS ls (lv_sub hl [1, 2, 3, 4, 5] rfl) hF
          · have hF := ite_t c5 hF
            refine lv_aload hx hb dX0_greatestBy_39 (lv_at hl 0 rfl) ?_
            refine k_VNv (As := []) (rest := []) Z hK hP hS (t_X1_size l G hG i4 ki4 σ) ⟨va_cnB 0 hts gX0_greatestBy_X1_size_n58 rfl rfl rfl w4n w3 (by decide +kernel) ⟨Nat.le_of_ble_eq_true rfl, Nat.le_of_ble_eq_true rfl⟩, w5, w6⟩ (at_1 ki4) rfl rfl hl.1 rfl (Nat.le_of_ble_eq_true rfl) ⟨Nat.zero_le _, Nat.zero_le _⟩ dX0_greatestBy_41 (fun H locs hP hS => ?_)
            refine lv_iload_n hx hb dX0_greatestBy_44 rfl (lv_at hl 4 rfl) ?_
            refine lv_icmp_le (tgt := 61) hx hb dX0_greatestBy_45 (by decide) (fun c6 => ?_) (fun c6 => ?_)
            · have hF := ite_t c6 hF
              exact J61 v2 v3 v4 _ _ hP hS ls (lv_sub hl [1, 2, 3, 4, 5] rfl) hF
            · have hF := ite_f c6 hF
              refine lv_aload hx hb dX0_greatestBy_48 (lv_at hl 0 rfl) ?_
              refine k_VNv (As := []) (rest := []) Z hK hP hS (t_X1_size l G hG i4 ki4 σ) ⟨va_cnB 0 hts gX0_greatestBy_X1_size_n58 rfl rfl rfl w4n w3 (by decide +kernel) ⟨Nat.le_of_ble_eq_true rfl, Nat.le_of_ble_eq_true rfl⟩, w5, w6⟩ (at_1 ki4) rfl rfl hl.1 rfl (Nat.le_of_ble_eq_true rfl) ⟨Nat.zero_le _, Nat.zero_le _⟩ dX0_greatestBy_50 (fun H locs hP hS => ?_)
              refine lv_istore_n (lv' := [(3, .int (f_X1_size i4 σ)), (5, .ref (gA G i4)), (0, .ref (gA G 18)), (1, .int x1), (2, .int v2), (4, .int v4)]) hx hb dX0_greatestBy_53 rfl hl (by decide) rfl (fun ls hl => ?_)
              refine lv_aload_n hx hb dX0_greatestBy_54 rfl (lv_at hl 2 rfl) ?_
              refine lv_iload hx hb dX0_greatestBy_55 (lv_at hl 5 rfl) ?_
              obtain ⟨q7, h8, hF⟩ := ob_some hF
              refine k_Vv (As := [.int v4]) (rest := []) Z hK hP hS (t_X0_numberIn l G hG v4 σ _ h8) (cwV 1 hts gX0_greatestBy_X0_numberIn rfl rfl rfl (by decide +kernel) ⟨Nat.le_of_ble_eq_true rfl, Nat.le_of_ble_eq_true rfl⟩) (at_0 rfl) rfl rfl hl.1 rfl (Nat.le_of_ble_eq_true rfl) ⟨Nat.zero_le _, Nat.zero_le _⟩ dX0_greatestBy_57 (fun H locs hP hS => ?_)
              refine lv_istore_n (lv' := [(2, .int q7), (3, .int (f_X1_size i4 σ)), (5, .ref (gA G i4)), (0, .ref (gA G 18)), (1, .int x1), (4, .int v4)]) hx hb dX0_greatestBy_60 rfl hl (by decide) rfl (fun ls hl => ?_)
              exact J61 q7 (f_X1_size i4 σ) v4 _ _ hP hS ls (lv_sub hl [3, 4, 0, 1, 5] rfl) hF
  refine lv_istore (lv' := [(4, .int (0 : Int32)), (3, .int (-1 : Int32)), (2, .int (-4 : Int32)), (0, .ref (gA G 18)), (1, .int x1)]) hx hb dX0_greatestBy_6 hl (by decide) rfl (fun ls hl => ?_)
  exact J8 fu (-4 : Int32) (-1 : Int32) (0 : Int32) _ _ hP hS ls (lv_sub hl [3, 4, 2, 1, 0] rfl) hF
def f_X0_newsFor_77 (x1 : Int32) (x2 : Int32) (σ : St) (rec5 : Int32 → Int32 → Option Int32) (v3 : Int32) (v4 : Int32) : Option Int32 := (rec5 v3 (v4 + (1 : Int32)))
theorem f_X0_newsFor_77_e {x1 : Int32} {x2 : Int32} {σ : St} {rec5 : Int32 → Int32 → Option Int32} {v3 : Int32} {v4 : Int32} : f_X0_newsFor_77 x1 x2 σ rec5 v3 v4 = (rec5 v3 (v4 + (1 : Int32))) := rfl
def f_X0_newsFor_5 (x1 : Int32) (x2 : Int32) (σ : St) : Nat → (Int32 → Int32 → Option Int32)
  | 0 => fun _ _ => none
  | fl + 1 => fun v3 v4 => (if (σ 18 3) ≤ v4 then (some v3) else (ob (f_X0_pageIn v4 σ) (fun q2 => if q2 = x2 then (ob (f_X0_deedIn v4 σ) (fun q5 => oc q5 ((f_X0_newsFor_77 x1 x2 σ (f_X0_newsFor_5 x1 x2 σ fl) v3 v4)) (fun i7 => (if (f_X1_isKnown i7 x1 σ) = true then (if (f_X1_isKept i7 x1 (σ 21 3) σ) = true then f_X0_newsFor_77 x1 x2 σ (f_X0_newsFor_5 x1 x2 σ fl) v3 v4 else (ob (f_X0_numberIn v4 σ) (fun q10 => f_X0_newsFor_77 x1 x2 σ (f_X0_newsFor_5 x1 x2 σ fl) (v3 ||| ((1 : Int32) <<< (q10 &&& 31))) v4))) else f_X0_newsFor_77 x1 x2 σ (f_X0_newsFor_5 x1 x2 σ fl) v3 v4)))) else (f_X0_newsFor_77 x1 x2 σ (f_X0_newsFor_5 x1 x2 σ fl) v3 v4))))
theorem f_X0_newsFor_5_s {x1 : Int32} {x2 : Int32} {σ : St} (fl : Nat) {v3 : Int32} {v4 : Int32} : f_X0_newsFor_5 x1 x2 σ (fl + 1) v3 v4 = (if (σ 18 3) ≤ v4 then (some v3) else (ob (f_X0_pageIn v4 σ) (fun q2 => if q2 = x2 then (ob (f_X0_deedIn v4 σ) (fun q5 => oc q5 ((f_X0_newsFor_77 x1 x2 σ (f_X0_newsFor_5 x1 x2 σ fl) v3 v4)) (fun i7 => (if (f_X1_isKnown i7 x1 σ) = true then (if (f_X1_isKept i7 x1 (σ 21 3) σ) = true then f_X0_newsFor_77 x1 x2 σ (f_X0_newsFor_5 x1 x2 σ fl) v3 v4 else (ob (f_X0_numberIn v4 σ) (fun q10 => f_X0_newsFor_77 x1 x2 σ (f_X0_newsFor_5 x1 x2 σ fl) (v3 ||| ((1 : Int32) <<< (q10 &&& 31))) v4))) else f_X0_newsFor_77 x1 x2 σ (f_X0_newsFor_5 x1 x2 σ fl) v3 v4)))) else (f_X0_newsFor_77 x1 x2 σ (f_X0_newsFor_5 x1 x2 σ fl) v3 v4)))) := rfl
def f_X0_newsFor (x1 : Int32) (x2 : Int32) (σ : St) : Option Int32 := (f_X0_newsFor_5 x1 x2 σ fu (0 : Int32) (0 : Int32))
set_option maxRecDepth 100000 in
set_option maxHeartbeats 4000000 in
theorem t_X0_newsFor (l : Launch) (G : GT) (hG : Dw G) (x1 : Int32) (x2 : Int32) (σ : St) (o : Int32) (hF : f_X0_newsFor x1 x2 σ = some o) : Ct l G yX0_newsFor wsX0_newsFor 2 43 [.ref (gA G 18), .int x1, .int x2] σ (some (.int o)) σ := by
  refine Met.ofW (cc := cX0_newsFor) (maxL := 6) (ret := (some .int)) (by decide) rfl ?_
  intro p e s m args below meth c s₁ B hml hv
  obtain ⟨rfl, hP, hK⟩ := hv
  have hx := B.exec
  have hb := B.bytes
  have hr := B.returns
  have hts := atoms_spec (ws := wsX0_newsFor) B.pre
  have hown : s.vm.findClass RX0 = some m.cls := findClass_of_methodNamed B.named
  have hlocks := B.notSynchronized
  have Z : CallFix p m c cX0_newsFor 6 s _ wsX0_newsFor RX0 := ⟨hx, hb, hml, hown, hts⟩
  have hS : va_S (AG G) s.heap s.heap [] := va_S.rf
  have inX0 : ∀ w ∈ u_ws RX0 TX0 5, w ∈ wsX0_newsFor := by decide +kernel
  have inX7 : ∀ w ∈ u_ws RX7 TX7 4, w ∈ wsX0_newsFor := by decide +kernel
  have w1 := hts (.fieldLink RX0 25 "AlmanacOfTheYearGone$Almanac" "printed" "I") (by decide +kernel)
  have w2 := hts (.initialized RX1) (by decide +kernel)
  have w3n : va_Nw (.methodLinkNest "AlmanacOfTheYearGone$Almanac" 78 ⟨"AlmanacOfTheYearGone$Deed", "isKnown", "(I)Z"⟩ "AlmanacOfTheYearGone") s := hK.2 _ (List.mem_of_getElem? (i := 74) rfl)
  have w3 := va_Nw.use (A := [.ref (gA G 18), .int x1, .int x2].toArray) rfl w3n
  have w4 := hts (.instanceMethod yX1_isKnown) (by decide +kernel)
  have w5 := hts (.selects RX1 yX1_isKnown yX1_isKnown) (by decide +kernel)
  have w6 := hts (.fieldLink RX0 12 "AlmanacOfTheYearGone$Almanac" "year" "LAlmanacOfTheYearGone$Year;") (by decide +kernel)
  have w7n : va_Nw (.fieldLinkNest "AlmanacOfTheYearGone$Almanac" 82 "AlmanacOfTheYearGone$Year" "day" "I" "AlmanacOfTheYearGone") s := hK.2 _ (List.mem_of_getElem? (i := 29) rfl)
  have w7 := va_Nw.use (A := [.ref (gA G 18), .int x1, .int x2].toArray) rfl w7n
  have w8n : va_Nw (.methodLinkNest "AlmanacOfTheYearGone$Almanac" 83 ⟨"AlmanacOfTheYearGone$Deed", "isKept", "(II)Z"⟩ "AlmanacOfTheYearGone") s := hK.2 _ (List.mem_of_getElem? (i := 75) rfl)
  have w8 := va_Nw.use (A := [.ref (gA G 18), .int x1, .int x2].toArray) rfl w8n
  have w9 := hts (.instanceMethod yX1_isKept) (by decide +kernel)
  have w10 := hts (.selects RX1 yX1_isKept yX1_isKept) (by decide +kernel)
  have hl := lv_entry ([.ref (gA G 18), .int x1, .int x2]) (n := 6) (Nat.le_of_ble_eq_true rfl)
  rw [lg_entry_eq]
  generalize (lg_sl ([.ref (gA G 18), .int x1, .int x2]) ++ List.replicate (6 - (lg_sl ([.ref (gA G 18), .int x1, .int x2])).length) Slot.unset).toArray = ls at hl ⊢
  have hl : lv_has ls 6 [(0, .ref (gA G 18)), (1, .int x1), (2, .int x2)] := hl
  unfold f_X0_newsFor at hF
  refine lv_iconst (v := 0) hx hb dX0_newsFor_0 (by decide) ?_
  refine lv_istore_n (lv' := [(3, .int (0 : Int32)), (0, .ref (gA G 18)), (1, .int x1), (2, .int x2)]) hx hb dX0_newsFor_1 rfl hl (by decide) rfl (fun ls hl => ?_)
  refine lv_iconst (v := 0) hx hb dX0_newsFor_2 (by decide) ?_
  have J5 : ∀ (fl : Nat) (v3 : Int32) (v4 : Int32) (H : Heap) (locs : List Loc) (hP : Pw G σ H) (hS : va_S (AG G) s.heap H locs) (ls : Array Slot) (hl : lv_has ls 6 [(0, .ref (gA G 18)), (1, .int x1), (2, .int x2), (3, .int v3), (4, .int v4)]) (hF : f_X0_newsFor_5 x1 x2 σ fl v3 v4 = some o), W p l e (headSpec wsX0_newsFor ({ frames := 2, cells := 0, slots := 0, locals := 43 })).room s m ([.ref (gA G 18), .int x1, .int x2] : List Value).toArray below meth c H locs 0 0 (MQ below (qR G (some (.int o)) σ) ([.ref (gA G 18), .int x1, .int x2] : List Value).toArray s 0 0 (AG G)) (F0 m 5 ls []) := by
    intro fl5
    induction fl5 with
    | zero => intro v3 v4 H locs hP hS ls hl hF; cases hF
    | succ fl5 ih5 =>
      intro v3 v4 H locs hP hS ls hl hF
      rw [f_X0_newsFor_5_s] at hF
      refine lv_iload hx hb dX0_newsFor_5 (lv_at hl 4 rfl) ?_
      refine lv_aload_n hx hb dX0_newsFor_7 rfl (lv_at hl 0 rfl) ?_
      refine va_get (ci := 0) (C := RX0) (T := TX0) (N := 5) (v := .int (σ 18 3)) hx hb hts inX0 hown hK.1 hP 18 (at_0 rfl) rfl 3 (by decide) w1 (fun _ h9 => h9) rfl dX0_newsFor_8 ?_
      refine lv_icmp_ge (tgt := 83) hx hb dX0_newsFor_11 (by decide) (fun c1 => ?_) (fun c1 => ?_)
      · have hF := ite_t c1 hF
        refine lv_iload_n hx hb dX0_newsFor_83 rfl (lv_at hl 3 rfl) ?_
        exact e_iP hx hb hr hP hS hlocks dX0_newsFor_84 hF
      · have hF := ite_f c1 hF
        refine lv_aload_n hx hb dX0_newsFor_14 rfl (lv_at hl 0 rfl) ?_
        refine lv_iload hx hb dX0_newsFor_15 (lv_at hl 4 rfl) ?_
        obtain ⟨q2, h3, hF⟩ := ob_some hF
        refine k_Vv (As := [.int v4]) (rest := []) Z hK hP hS (t_X0_pageIn l G hG v4 σ _ h3) (cwV 1 hts gX0_newsFor_X0_pageIn rfl rfl rfl (by decide +kernel) ⟨Nat.le_of_ble_eq_true rfl, Nat.le_of_ble_eq_true rfl⟩) (at_0 rfl) rfl rfl hl.1 rfl (Nat.le_of_ble_eq_true rfl) ⟨Nat.zero_le _, Nat.zero_le _⟩ dX0_newsFor_17 (fun H locs hP hS => ?_)
        refine lv_iload_n hx hb dX0_newsFor_20 rfl (lv_at hl 2 rfl) ?_
        refine lv_icmp_ne (tgt := 33) hx hb dX0_newsFor_21 (by decide) (fun c4 => ?_) (fun c4 => ?_)
        · have hF := ite_f c4 hF
          refine lv_null hx hb dX0_newsFor_33 ?_
          refine lv_astoreN (lv' := [(5, .null), (0, .ref (gA G 18)), (1, .int x1), (2, .int x2), (3, .int v3), (4, .int v4)]) hx hb dX0_newsFor_34 hl (by decide) rfl (fun ls hl => ?_)
          refine lv_aloadN hx hb dX0_newsFor_36 (lv_at hl 0 rfl) ?_
          have J77 : ∀ (v3 : Int32) (v4 : Int32) (H : Heap) (locs : List Loc) (hP : Pw G σ H) (hS : va_S (AG G) s.heap H locs) (ls : Array Slot) (hl : lv_has ls 6 [(0, .ref (gA G 18)), (1, .int x1), (2, .int x2), (3, .int v3), (4, .int v4)]) (hF : f_X0_newsFor_77 x1 x2 σ (f_X0_newsFor_5 x1 x2 σ fl5) v3 v4 = some o), W p l e (headSpec wsX0_newsFor ({ frames := 2, cells := 0, slots := 0, locals := 43 })).room s m ([.ref (gA G 18), .int x1, .int x2] : List Value).toArray below meth c H locs 0 0 (MQ below (qR G (some (.int o)) σ) ([.ref (gA G 18), .int x1, .int x2] : List Value).toArray s 0 0 (AG G)) (F0 m 77 ls []) := by
            intro v3 v4 H locs hP hS ls hl hF
            rw [f_X0_newsFor_77_e] at hF
            refine lv_iinc (v := (v4 + (1 : Int32))) (lv' := [(4, .int (v4 + (1 : Int32))), (0, .ref (gA G 18)), (1, .int x1), (2, .int x2), (3, .int v3)]) hx hb dX0_newsFor_77 hl (k := 4) rfl rfl (by decide) rfl (fun ls hl => ?_)
            refine lv_goto (tgt := 5) hx hb dX0_newsFor_80 (by decide) ?_
            exact ih5 v3 (v4 + (1 : Int32)) _ _ hP hS ls (lv_sub hl [1, 2, 3, 4, 0] rfl) hF
          refine lv_ifnullN (tgt := 77) hx hb dX0_newsFor_38 (by decide) ?_
          exact J77 v3 v4 _ _ hP hS ls (lv_sub hl [1, 2, 3, 4, 5] rfl) hF
        · have hF := ite_t c4 hF
          refine lv_aload_n hx hb dX0_newsFor_24 rfl (lv_at hl 0 rfl) ?_
          refine lv_iload hx hb dX0_newsFor_25 (lv_at hl 4 rfl) ?_
          obtain ⟨q5, h6, hF⟩ := ob_some hF
          refine k_Vv (As := [.int v4]) (rest := []) Z hK hP hS (t_X0_deedIn l G hG v4 σ _ h6) (cwV 1 hts gX0_newsFor_X0_deedIn rfl rfl rfl (by decide +kernel) ⟨Nat.le_of_ble_eq_true rfl, Nat.le_of_ble_eq_true rfl⟩) (at_0 rfl) rfl rfl hl.1 rfl (Nat.le_of_ble_eq_true rfl) ⟨Nat.zero_le _, Nat.zero_le _⟩ dX0_newsFor_27 (fun H locs hP hS => ?_)
          rcases q5 with _ | i7
          · have hF := oc_n hF
            refine W.eq (g2 := F0 m 30 ls [.null]) rfl ?_
            refine lv_goto (tgt := 34) hx hb dX0_newsFor_30 (by decide) ?_
            refine lv_astoreN (lv' := [(5, .null), (0, .ref (gA G 18)), (1, .int x1), (2, .int x2), (3, .int v3), (4, .int v4)]) hx hb dX0_newsFor_34 hl (by decide) rfl (fun ls hl => ?_)
            refine lv_aloadN hx hb dX0_newsFor_36 (lv_at hl 0 rfl) ?_
            have J77 : ∀ (v3 : Int32) (v4 : Int32) (H : Heap) (locs : List Loc) (hP : Pw G σ H) (hS : va_S (AG G) s.heap H locs) (ls : Array Slot) (hl : lv_has ls 6 [(0, .ref (gA G 18)), (1, .int x1), (2, .int x2), (3, .int v3), (4, .int v4)]) (hF : f_X0_newsFor_77 x1 x2 σ (f_X0_newsFor_5 x1 x2 σ fl5) v3 v4 = some o), W p l e (headSpec wsX0_newsFor ({ frames := 2, cells := 0, slots := 0, locals := 43 })).room s m ([.ref (gA G 18), .int x1, .int x2] : List Value).toArray below meth c H locs 0 0 (MQ below (qR G (some (.int o)) σ) ([.ref (gA G 18), .int x1, .int x2] : List Value).toArray s 0 0 (AG G)) (F0 m 77 ls []) := by
              intro v3 v4 H locs hP hS ls hl hF
              rw [f_X0_newsFor_77_e] at hF
              refine lv_iinc (v := (v4 + (1 : Int32))) (lv' := [(4, .int (v4 + (1 : Int32))), (0, .ref (gA G 18)), (1, .int x1), (2, .int x2), (3, .int v3)]) hx hb dX0_newsFor_77 hl (k := 4) rfl rfl (by decide) rfl (fun ls hl => ?_)
              refine lv_goto (tgt := 5) hx hb dX0_newsFor_80 (by decide) ?_
              exact ih5 v3 (v4 + (1 : Int32)) _ _ hP hS ls (lv_sub hl [1, 2, 3, 4, 0] rfl) hF
            refine lv_ifnullN (tgt := 77) hx hb dX0_newsFor_38 (by decide) ?_
            exact J77 v3 v4 _ _ hP hS ls (lv_sub hl [1, 2, 3, 4, 5] rfl) hF
          · have hF := oc_s hF
            have ki7 : kd i7 = 1 := q_X0_deedIn  h6
            refine W.eq (g2 := F0 m 30 ls [.ref (gA G i7)]) rfl ?_
            refine lv_goto (tgt := 34) hx hb dX0_newsFor_30 (by decide) ?_
            refine lv_astore (lv' := [(5, .ref (gA G i7)), (0, .ref (gA G 18)), (1, .int x1), (2, .int x2), (3, .int v3), (4, .int v4)]) hx hb dX0_newsFor_34 hl (by decide) rfl (fun ls hl => ?_)
            refine lv_aload hx hb dX0_newsFor_36 (lv_at hl 0 rfl) ?_
            have J77 : ∀ (v3 : Int32) (v4 : Int32) (H : Heap) (locs : List Loc) (hP : Pw G σ H) (hS : va_S (AG G) s.heap H locs) (ls : Array Slot) (hl : lv_has ls 6 [(0, .ref (gA G 18)), (1, .int x1), (2, .int x2), (3, .int v3), (4, .int v4)]) (hF : f_X0_newsFor_77 x1 x2 σ (f_X0_newsFor_5 x1 x2 σ fl5) v3 v4 = some o), W p l e (headSpec wsX0_newsFor ({ frames := 2, cells := 0, slots := 0, locals := 43 })).room s m ([.ref (gA G 18), .int x1, .int x2] : List Value).toArray below meth c H locs 0 0 (MQ below (qR G (some (.int o)) σ) ([.ref (gA G 18), .int x1, .int x2] : List Value).toArray s 0 0 (AG G)) (F0 m 77 ls []) := by
              intro v3 v4 H locs hP hS ls hl hF
              rw [f_X0_newsFor_77_e] at hF
              refine lv_iinc (v := (v4 + (1 : Int32))) (lv' := [(4, .int (v4 + (1 : Int32))), (0, .ref (gA G 18)), (1, .int x1), (2, .int x2), (3, .int v3)]) hx hb dX0_newsFor_77 hl (k := 4) rfl rfl (by decide) rfl (fun ls hl => ?_)
              refine lv_goto (tgt := 5) hx hb dX0_newsFor_80 (by decide) ?_
              exact ih5 v3 (v4 + (1 : Int32)) _ _ hP hS ls (lv_sub hl [1, 2, 3, 4, 0] rfl) hF
            refine lv_ifnull hx hb dX0_newsFor_38 ?_
            refine lv_aload hx hb dX0_newsFor_41 (lv_at hl 0 rfl) ?_
            refine lv_iload_n hx hb dX0_newsFor_43 rfl (lv_at hl 2 rfl) ?_
            refine k_VNv (As := [.int x1]) (rest := []) Z hK hP hS (t_X1_isKnown l G hG i7 x1 ki7 σ) ⟨va_cnB 1 hts gX0_newsFor_X1_isKnown_n78 rfl rfl rfl w3n w2 (by decide +kernel) ⟨Nat.le_of_ble_eq_true rfl, Nat.le_of_ble_eq_true rfl⟩, w4, w5⟩ (at_1 ki7) rfl rfl hl.1 rfl (Nat.le_of_ble_eq_true rfl) ⟨Nat.zero_le _, Nat.zero_le _⟩ dX0_newsFor_44 (fun H locs hP hS => ?_)
            refine lv_if_eq (tgt := 77) hx hb dX0_newsFor_47 (by decide) (fun c8 => ?_) (fun c8 => ?_)
            · have hF := ite_f (b2i_e0 c8) hF
              exact J77 v3 v4 _ _ hP hS ls (lv_sub hl [1, 2, 3, 4, 5] rfl) hF
            · have hF := ite_t (b2i_n0 c8) hF
              refine lv_aload hx hb dX0_newsFor_50 (lv_at hl 0 rfl) ?_
              refine lv_iload_n hx hb dX0_newsFor_52 rfl (lv_at hl 2 rfl) ?_
              refine lv_aload_n hx hb dX0_newsFor_53 rfl (lv_at hl 1 rfl) ?_
              refine va_get (ci := 0) (C := RX0) (T := TX0) (N := 5) (v := .ref (gA G 21)) hx hb hts inX0 hown hK.1 hP 18 (at_0 rfl) rfl 0 (by decide) w6 (fun _ h9 => h9) rfl dX0_newsFor_54 ?_
              refine va_getN (ci := 3) (C := RX7) (T := TX7) (N := 4) (v := .int (σ 21 3)) hx hb hts inX7 hown hK.1 hP 21 (at_3 (rfl : kd 21 = 3)) rfl 3 (by decide) w7 (fun _ h9 => h9) rfl dX0_newsFor_57 ?_
              refine k_VNv (As := [.int x1, .int (σ 21 3)]) (rest := []) Z hK hP hS (t_X1_isKept l G hG i7 x1 (σ 21 3) ki7 σ) ⟨va_cnB 2 hts gX0_newsFor_X1_isKept_n83 rfl rfl rfl w8n w2 (by decide +kernel) ⟨Nat.le_of_ble_eq_true rfl, Nat.le_of_ble_eq_true rfl⟩, w9, w10⟩ (at_1 ki7) rfl rfl hl.1 rfl (Nat.le_of_ble_eq_true rfl) ⟨Nat.zero_le _, Nat.zero_le _⟩ dX0_newsFor_60 (fun H locs hP hS => ?_)
              refine lv_if_ne (tgt := 77) hx hb dX0_newsFor_63 (by decide) (fun c9 => ?_) (fun c9 => ?_)
              · have hF := ite_t (b2i_n0 c9) hF
                exact J77 v3 v4 _ _ hP hS ls (lv_sub hl [1, 2, 3, 4, 5] rfl) hF
              · have hF := ite_f (b2i_e0 c9) hF
                refine lv_iload_n hx hb dX0_newsFor_66 rfl (lv_at hl 4 rfl) ?_
                refine lv_iconst (v := 1) hx hb dX0_newsFor_67 (by decide) ?_
                refine lv_aload_n hx hb dX0_newsFor_68 rfl (lv_at hl 1 rfl) ?_
                refine lv_iload hx hb dX0_newsFor_69 (lv_at hl 5 rfl) ?_
                obtain ⟨q10, h11, hF⟩ := ob_some hF
                refine k_Vv (As := [.int v4]) (rest := [.int (1 : Int32), .int v3]) Z hK hP hS (t_X0_numberIn l G hG v4 σ _ h11) (cwV 1 hts gX0_newsFor_X0_numberIn rfl rfl rfl (by decide +kernel) ⟨Nat.le_of_ble_eq_true rfl, Nat.le_of_ble_eq_true rfl⟩) (at_0 rfl) rfl rfl hl.1 rfl (Nat.le_of_ble_eq_true rfl) ⟨Nat.zero_le _, Nat.zero_le _⟩ dX0_newsFor_71 (fun H locs hP hS => ?_)
                refine lv_ishl hx hb dX0_newsFor_74 ?_
                refine lv_ior hx hb dX0_newsFor_75 ?_
                refine lv_istore_n (lv' := [(3, .int (v3 ||| ((1 : Int32) <<< (q10 &&& 31)))), (5, .ref (gA G i7)), (0, .ref (gA G 18)), (1, .int x1), (2, .int x2), (4, .int v4)]) hx hb dX0_newsFor_76 rfl hl (by decide) rfl (fun ls hl => ?_)
                exact J77 (v3 ||| ((1 : Int32) <<< (q10 &&& 31))) v4 _ _ hP hS ls (lv_sub hl [2, 3, 4, 0, 5] rfl) hF
  refine lv_istore (lv' := [(4, .int (0 : Int32)), (3, .int (0 : Int32)), (0, .ref (gA G 18)), (1, .int x1), (2, .int x2)]) hx hb dX0_newsFor_3 hl (by decide) rfl (fun ls hl => ?_)
  exact J5 fu (0 : Int32) (0 : Int32) _ _ hP hS ls (lv_sub hl [2, 3, 4, 1, 0] rfl) hF
def f_X0_deedsFromPage_31 (x1 : Int32) (σ : St) (rec4 : Int32 → Int32 → Option Int32) (v2 : Int32) (v3 : Int32) : Option Int32 := (rec4 v2 (v3 + (1 : Int32)))
theorem f_X0_deedsFromPage_31_e {x1 : Int32} {σ : St} {rec4 : Int32 → Int32 → Option Int32} {v2 : Int32} {v3 : Int32} : f_X0_deedsFromPage_31 x1 σ rec4 v2 v3 = (rec4 v2 (v3 + (1 : Int32))) := rfl
def f_X0_deedsFromPage_4 (x1 : Int32) (σ : St) : Nat → (Int32 → Int32 → Option Int32)
  | 0 => fun _ _ => none
  | fl + 1 => fun v2 v3 => (if (σ 18 3) ≤ v3 then (some v2) else (ob (f_X0_pageIn v3 σ) (fun q2 => if q2 < x1 then f_X0_deedsFromPage_31 x1 σ (f_X0_deedsFromPage_4 x1 σ fl) v2 v3 else (ob (f_X0_numberIn v3 σ) (fun q5 => f_X0_deedsFromPage_31 x1 σ (f_X0_deedsFromPage_4 x1 σ fl) (v2 ||| ((1 : Int32) <<< (q5 &&& 31))) v3)))))
theorem f_X0_deedsFromPage_4_s {x1 : Int32} {σ : St} (fl : Nat) {v2 : Int32} {v3 : Int32} : f_X0_deedsFromPage_4 x1 σ (fl + 1) v2 v3 = (if (σ 18 3) ≤ v3 then (some v2) else (ob (f_X0_pageIn v3 σ) (fun q2 => if q2 < x1 then f_X0_deedsFromPage_31 x1 σ (f_X0_deedsFromPage_4 x1 σ fl) v2 v3 else (ob (f_X0_numberIn v3 σ) (fun q5 => f_X0_deedsFromPage_31 x1 σ (f_X0_deedsFromPage_4 x1 σ fl) (v2 ||| ((1 : Int32) <<< (q5 &&& 31))) v3))))) := rfl
def f_X0_deedsFromPage (x1 : Int32) (σ : St) : Option Int32 := (f_X0_deedsFromPage_4 x1 σ fu (0 : Int32) (0 : Int32))
set_option maxRecDepth 100000 in
set_option maxHeartbeats 4000000 in
theorem t_X0_deedsFromPage (l : Launch) (G : GT) (hG : Dw G) (x1 : Int32) (σ : St) (o : Int32) (hF : f_X0_deedsFromPage x1 σ = some o) : Ct l G yX0_deedsFromPage wsX0_deedsFromPage 1 21 [.ref (gA G 18), .int x1] σ (some (.int o)) σ := by
  refine Met.ofW (cc := cX0_deedsFromPage) (maxL := 4) (ret := (some .int)) (by decide) rfl ?_
  intro p e s m args below meth c s₁ B hml hv
  obtain ⟨rfl, hP, hK⟩ := hv
  have hx := B.exec
  have hb := B.bytes
  have hr := B.returns
  have hts := atoms_spec (ws := wsX0_deedsFromPage) B.pre
  have hown : s.vm.findClass RX0 = some m.cls := findClass_of_methodNamed B.named
  have hlocks := B.notSynchronized
  have Z : CallFix p m c cX0_deedsFromPage 4 s _ wsX0_deedsFromPage RX0 := ⟨hx, hb, hml, hown, hts⟩
  have hS : va_S (AG G) s.heap s.heap [] := va_S.rf
  have inX0 : ∀ w ∈ u_ws RX0 TX0 5, w ∈ wsX0_deedsFromPage := by decide +kernel
  have w1 := hts (.fieldLink RX0 25 "AlmanacOfTheYearGone$Almanac" "printed" "I") (by decide +kernel)
  have hl := lv_entry ([.ref (gA G 18), .int x1]) (n := 4) (Nat.le_of_ble_eq_true rfl)
  rw [lg_entry_eq]
  generalize (lg_sl ([.ref (gA G 18), .int x1]) ++ List.replicate (4 - (lg_sl ([.ref (gA G 18), .int x1])).length) Slot.unset).toArray = ls at hl ⊢
  have hl : lv_has ls 4 [(0, .ref (gA G 18)), (1, .int x1)] := hl
  unfold f_X0_deedsFromPage at hF
  refine lv_iconst (v := 0) hx hb dX0_deedsFromPage_0 (by decide) ?_
  refine lv_istore_n (lv' := [(2, .int (0 : Int32)), (0, .ref (gA G 18)), (1, .int x1)]) hx hb dX0_deedsFromPage_1 rfl hl (by decide) rfl (fun ls hl => ?_)
  refine lv_iconst (v := 0) hx hb dX0_deedsFromPage_2 (by decide) ?_
  have J4 : ∀ (fl : Nat) (v2 : Int32) (v3 : Int32) (H : Heap) (locs : List Loc) (hP : Pw G σ H) (hS : va_S (AG G) s.heap H locs) (ls : Array Slot) (hl : lv_has ls 4 [(0, .ref (gA G 18)), (1, .int x1), (2, .int v2), (3, .int v3)]) (hF : f_X0_deedsFromPage_4 x1 σ fl v2 v3 = some o), W p l e (headSpec wsX0_deedsFromPage ({ frames := 1, cells := 0, slots := 0, locals := 21 })).room s m ([.ref (gA G 18), .int x1] : List Value).toArray below meth c H locs 0 0 (MQ below (qR G (some (.int o)) σ) ([.ref (gA G 18), .int x1] : List Value).toArray s 0 0 (AG G)) (F0 m 4 ls []) := by
    intro fl4
    induction fl4 with
    | zero => intro v2 v3 H locs hP hS ls hl hF; cases hF
    | succ fl4 ih4 =>
      intro v2 v3 H locs hP hS ls hl hF
      rw [f_X0_deedsFromPage_4_s] at hF
      refine lv_iload_n hx hb dX0_deedsFromPage_4 rfl (lv_at hl 3 rfl) ?_
      refine lv_aload_n hx hb dX0_deedsFromPage_5 rfl (lv_at hl 0 rfl) ?_
      refine va_get (ci := 0) (C := RX0) (T := TX0) (N := 5) (v := .int (σ 18 3)) hx hb hts inX0 hown hK.1 hP 18 (at_0 rfl) rfl 3 (by decide) w1 (fun _ h9 => h9) rfl dX0_deedsFromPage_6 ?_
      refine lv_icmp_ge (tgt := 37) hx hb dX0_deedsFromPage_9 (by decide) (fun c1 => ?_) (fun c1 => ?_)
      · have hF := ite_t c1 hF
        refine lv_iload_n hx hb dX0_deedsFromPage_37 rfl (lv_at hl 2 rfl) ?_
        exact e_iP hx hb hr hP hS hlocks dX0_deedsFromPage_38 hF
      · have hF := ite_f c1 hF
        refine lv_aload_n hx hb dX0_deedsFromPage_12 rfl (lv_at hl 0 rfl) ?_
        refine lv_iload_n hx hb dX0_deedsFromPage_13 rfl (lv_at hl 3 rfl) ?_
        obtain ⟨q2, h3, hF⟩ := ob_some hF
        refine k_Vv (As := [.int v3]) (rest := []) Z hK hP hS (t_X0_pageIn l G hG v3 σ _ h3) (cwV 1 hts gX0_deedsFromPage_X0_pageIn rfl rfl rfl (by decide +kernel) ⟨Nat.le_of_ble_eq_true rfl, Nat.le_of_ble_eq_true rfl⟩) (at_0 rfl) rfl rfl hl.1 rfl (Nat.le_of_ble_eq_true rfl) ⟨Nat.zero_le _, Nat.zero_le _⟩ dX0_deedsFromPage_14 (fun H locs hP hS => ?_)
        refine lv_iload_n hx hb dX0_deedsFromPage_17 rfl (lv_at hl 1 rfl) ?_
        have J31 : ∀ (v2 : Int32) (v3 : Int32) (H : Heap) (locs : List Loc) (hP : Pw G σ H) (hS : va_S (AG G) s.heap H locs) (ls : Array Slot) (hl : lv_has ls 4 [(0, .ref (gA G 18)), (1, .int x1), (2, .int v2), (3, .int v3)]) (hF : f_X0_deedsFromPage_31 x1 σ (f_X0_deedsFromPage_4 x1 σ fl4) v2 v3 = some o), W p l e (headSpec wsX0_deedsFromPage ({ frames := 1, cells := 0, slots := 0, locals := 21 })).room s m ([.ref (gA G 18), .int x1] : List Value).toArray below meth c H locs 0 0 (MQ below (qR G (some (.int o)) σ) ([.ref (gA G 18), .int x1] : List Value).toArray s 0 0 (AG G)) (F0 m 31 ls []) := by
          intro v2 v3 H locs hP hS ls hl hF
          rw [f_X0_deedsFromPage_31_e] at hF
          refine lv_iinc (v := (v3 + (1 : Int32))) (lv' := [(3, .int (v3 + (1 : Int32))), (0, .ref (gA G 18)), (1, .int x1), (2, .int v2)]) hx hb dX0_deedsFromPage_31 hl (k := 3) rfl rfl (by decide) rfl (fun ls hl => ?_)
          refine lv_goto (tgt := 4) hx hb dX0_deedsFromPage_34 (by decide) ?_
          exact ih4 v2 (v3 + (1 : Int32)) _ _ hP hS ls (lv_sub hl [1, 2, 3, 0] rfl) hF
        refine lv_icmp_lt (tgt := 31) hx hb dX0_deedsFromPage_18 (by decide) (fun c4 => ?_) (fun c4 => ?_)
        · have hF := ite_t c4 hF
          exact J31 v2 v3 _ _ hP hS ls (lv_sub hl [0, 1, 2, 3] rfl) hF
        · have hF := ite_f c4 hF
          refine lv_iload_n hx hb dX0_deedsFromPage_21 rfl (lv_at hl 2 rfl) ?_
          refine lv_iconst (v := 1) hx hb dX0_deedsFromPage_22 (by decide) ?_
          refine lv_aload_n hx hb dX0_deedsFromPage_23 rfl (lv_at hl 0 rfl) ?_
          refine lv_iload_n hx hb dX0_deedsFromPage_24 rfl (lv_at hl 3 rfl) ?_
          obtain ⟨q5, h6, hF⟩ := ob_some hF
          refine k_Vv (As := [.int v3]) (rest := [.int (1 : Int32), .int v2]) Z hK hP hS (t_X0_numberIn l G hG v3 σ _ h6) (cwV 1 hts gX0_deedsFromPage_X0_numberIn rfl rfl rfl (by decide +kernel) ⟨Nat.le_of_ble_eq_true rfl, Nat.le_of_ble_eq_true rfl⟩) (at_0 rfl) rfl rfl hl.1 rfl (Nat.le_of_ble_eq_true rfl) ⟨Nat.zero_le _, Nat.zero_le _⟩ dX0_deedsFromPage_25 (fun H locs hP hS => ?_)
          refine lv_ishl hx hb dX0_deedsFromPage_28 ?_
          refine lv_ior hx hb dX0_deedsFromPage_29 ?_
          refine lv_istore_n (lv' := [(2, .int (v2 ||| ((1 : Int32) <<< (q5 &&& 31)))), (0, .ref (gA G 18)), (1, .int x1), (3, .int v3)]) hx hb dX0_deedsFromPage_30 rfl hl (by decide) rfl (fun ls hl => ?_)
          exact J31 (v2 ||| ((1 : Int32) <<< (q5 &&& 31))) v3 _ _ hP hS ls (lv_sub hl [1, 2, 0, 3] rfl) hF
  refine lv_istore_n (lv' := [(3, .int (0 : Int32)), (2, .int (0 : Int32)), (0, .ref (gA G 18)), (1, .int x1)]) hx hb dX0_deedsFromPage_3 rfl hl (by decide) rfl (fun ls hl => ?_)
  exact J4 fu (0 : Int32) (0 : Int32) _ _ hP hS ls (lv_sub hl [2, 3, 1, 0] rfl) hF
def f_X0_doersAheadOfPage_49 (x1 : Int32) (σ : St) (rec4 : Int32 → Int32 → Option Int32) (v3 : Int32) (z0 : Int32) (z1 : Int32) : Option Int32 := (rec4 (z0 ||| z1) (v3 + (1 : Int32)))
theorem f_X0_doersAheadOfPage_49_e {x1 : Int32} {σ : St} {rec4 : Int32 → Int32 → Option Int32} {v3 : Int32} {z0 : Int32} {z1 : Int32} : f_X0_doersAheadOfPage_49 x1 σ rec4 v3 z0 z1 = (rec4 (z0 ||| z1) (v3 + (1 : Int32))) := rfl
def f_X0_doersAheadOfPage_4 (x1 : Int32) (σ : St) : Nat → (Int32 → Int32 → Option Int32)
  | 0 => fun _ _ => none
  | fl + 1 => fun v2 v3 => (if (σ 18 3) ≤ v3 then (some v2) else (ob (f_X0_pageIn v3 σ) (fun q2 => if x1 ≤ q2 then (f_X0_doersAheadOfPage_49 x1 σ (f_X0_doersAheadOfPage_4 x1 σ fl) v3 v2 (0 : Int32)) else (ob (f_X0_deedIn v3 σ) (fun q5 => oc q5 ((f_X0_doersAheadOfPage_49 x1 σ (f_X0_doersAheadOfPage_4 x1 σ fl) v3 v2 (0 : Int32))) (fun i7 => (f_X0_doersAheadOfPage_49 x1 σ (f_X0_doersAheadOfPage_4 x1 σ fl) v3 v2 ((1 : Int32) <<< ((σ i7 3) &&& 31)))))))))
theorem f_X0_doersAheadOfPage_4_s {x1 : Int32} {σ : St} (fl : Nat) {v2 : Int32} {v3 : Int32} : f_X0_doersAheadOfPage_4 x1 σ (fl + 1) v2 v3 = (if (σ 18 3) ≤ v3 then (some v2) else (ob (f_X0_pageIn v3 σ) (fun q2 => if x1 ≤ q2 then (f_X0_doersAheadOfPage_49 x1 σ (f_X0_doersAheadOfPage_4 x1 σ fl) v3 v2 (0 : Int32)) else (ob (f_X0_deedIn v3 σ) (fun q5 => oc q5 ((f_X0_doersAheadOfPage_49 x1 σ (f_X0_doersAheadOfPage_4 x1 σ fl) v3 v2 (0 : Int32))) (fun i7 => (f_X0_doersAheadOfPage_49 x1 σ (f_X0_doersAheadOfPage_4 x1 σ fl) v3 v2 ((1 : Int32) <<< ((σ i7 3) &&& 31))))))))) := rfl
def f_X0_doersAheadOfPage (x1 : Int32) (σ : St) : Option Int32 := (f_X0_doersAheadOfPage_4 x1 σ fu (0 : Int32) (0 : Int32))
set_option maxRecDepth 100000 in
set_option maxHeartbeats 4000000 in
theorem t_X0_doersAheadOfPage (l : Launch) (G : GT) (hG : Dw G) (x1 : Int32) (σ : St) (o : Int32) (hF : f_X0_doersAheadOfPage x1 σ = some o) : Ct l G yX0_doersAheadOfPage wsX0_doersAheadOfPage 2 42 [.ref (gA G 18), .int x1] σ (some (.int o)) σ := by
  refine Met.ofW (cc := cX0_doersAheadOfPage) (maxL := 5) (ret := (some .int)) (by decide) rfl ?_
  intro p e s m args below meth c s₁ B hml hv
  obtain ⟨rfl, hP, hK⟩ := hv
  have hx := B.exec
  have hb := B.bytes
  have hr := B.returns
  have hts := atoms_spec (ws := wsX0_doersAheadOfPage) B.pre
  have hown : s.vm.findClass RX0 = some m.cls := findClass_of_methodNamed B.named
  have hlocks := B.notSynchronized
  have Z : CallFix p m c cX0_doersAheadOfPage 5 s _ wsX0_doersAheadOfPage RX0 := ⟨hx, hb, hml, hown, hts⟩
  have hS : va_S (AG G) s.heap s.heap [] := va_S.rf
  have inX0 : ∀ w ∈ u_ws RX0 TX0 5, w ∈ wsX0_doersAheadOfPage := by decide +kernel
  have inX1 : ∀ w ∈ u_ws RX1 TX1 7, w ∈ wsX0_doersAheadOfPage := by decide +kernel
  have w1 := hts (.fieldLink RX0 25 "AlmanacOfTheYearGone$Almanac" "printed" "I") (by decide +kernel)
  have w2n : va_Nw (.fieldLinkNest "AlmanacOfTheYearGone$Almanac" 75 "AlmanacOfTheYearGone$Deed" "who" "I" "AlmanacOfTheYearGone") s := hK.2 _ (List.mem_of_getElem? (i := 19) rfl)
  have w2 := va_Nw.use (A := [.ref (gA G 18), .int x1].toArray) rfl w2n
  have hl := lv_entry ([.ref (gA G 18), .int x1]) (n := 5) (Nat.le_of_ble_eq_true rfl)
  rw [lg_entry_eq]
  generalize (lg_sl ([.ref (gA G 18), .int x1]) ++ List.replicate (5 - (lg_sl ([.ref (gA G 18), .int x1])).length) Slot.unset).toArray = ls at hl ⊢
  have hl : lv_has ls 5 [(0, .ref (gA G 18)), (1, .int x1)] := hl
  unfold f_X0_doersAheadOfPage at hF
  refine lv_iconst (v := 0) hx hb dX0_doersAheadOfPage_0 (by decide) ?_
  refine lv_istore_n (lv' := [(2, .int (0 : Int32)), (0, .ref (gA G 18)), (1, .int x1)]) hx hb dX0_doersAheadOfPage_1 rfl hl (by decide) rfl (fun ls hl => ?_)
  refine lv_iconst (v := 0) hx hb dX0_doersAheadOfPage_2 (by decide) ?_
  have J4 : ∀ (fl : Nat) (v2 : Int32) (v3 : Int32) (H : Heap) (locs : List Loc) (hP : Pw G σ H) (hS : va_S (AG G) s.heap H locs) (ls : Array Slot) (hl : lv_has ls 5 [(0, .ref (gA G 18)), (1, .int x1), (2, .int v2), (3, .int v3)]) (hF : f_X0_doersAheadOfPage_4 x1 σ fl v2 v3 = some o), W p l e (headSpec wsX0_doersAheadOfPage ({ frames := 2, cells := 0, slots := 0, locals := 42 })).room s m ([.ref (gA G 18), .int x1] : List Value).toArray below meth c H locs 0 0 (MQ below (qR G (some (.int o)) σ) ([.ref (gA G 18), .int x1] : List Value).toArray s 0 0 (AG G)) (F0 m 4 ls []) := by
    intro fl4
    induction fl4 with
    | zero => intro v2 v3 H locs hP hS ls hl hF; cases hF
    | succ fl4 ih4 =>
      intro v2 v3 H locs hP hS ls hl hF
      rw [f_X0_doersAheadOfPage_4_s] at hF
      refine lv_iload_n hx hb dX0_doersAheadOfPage_4 rfl (lv_at hl 3 rfl) ?_
      refine lv_aload_n hx hb dX0_doersAheadOfPage_5 rfl (lv_at hl 0 rfl) ?_
      refine va_get (ci := 0) (C := RX0) (T := TX0) (N := 5) (v := .int (σ 18 3)) hx hb hts inX0 hown hK.1 hP 18 (at_0 rfl) rfl 3 (by decide) w1 (fun _ h9 => h9) rfl dX0_doersAheadOfPage_6 ?_
      refine lv_icmp_ge (tgt := 57) hx hb dX0_doersAheadOfPage_9 (by decide) (fun c1 => ?_) (fun c1 => ?_)
      · have hF := ite_t c1 hF
        refine lv_iload_n hx hb dX0_doersAheadOfPage_57 rfl (lv_at hl 2 rfl) ?_
        exact e_iP hx hb hr hP hS hlocks dX0_doersAheadOfPage_58 hF
      · have hF := ite_f c1 hF
        refine lv_aload_n hx hb dX0_doersAheadOfPage_12 rfl (lv_at hl 0 rfl) ?_
        refine lv_iload_n hx hb dX0_doersAheadOfPage_13 rfl (lv_at hl 3 rfl) ?_
        obtain ⟨q2, h3, hF⟩ := ob_some hF
        refine k_Vv (As := [.int v3]) (rest := []) Z hK hP hS (t_X0_pageIn l G hG v3 σ _ h3) (cwV 1 hts gX0_doersAheadOfPage_X0_pageIn rfl rfl rfl (by decide +kernel) ⟨Nat.le_of_ble_eq_true rfl, Nat.le_of_ble_eq_true rfl⟩) (at_0 rfl) rfl rfl hl.1 rfl (Nat.le_of_ble_eq_true rfl) ⟨Nat.zero_le _, Nat.zero_le _⟩ dX0_doersAheadOfPage_14 (fun H locs hP hS => ?_)
        refine lv_iload_n hx hb dX0_doersAheadOfPage_17 rfl (lv_at hl 1 rfl) ?_
        refine lv_icmp_ge (tgt := 29) hx hb dX0_doersAheadOfPage_18 (by decide) (fun c4 => ?_) (fun c4 => ?_)
        · have hF := ite_t c4 hF
          refine lv_null hx hb dX0_doersAheadOfPage_29 ?_
          refine lv_astoreN (lv' := [(4, .null), (0, .ref (gA G 18)), (1, .int x1), (2, .int v2), (3, .int v3)]) hx hb dX0_doersAheadOfPage_30 hl (by decide) rfl (fun ls hl => ?_)
          refine lv_iload_n hx hb dX0_doersAheadOfPage_32 rfl (lv_at hl 3 rfl) ?_
          refine lv_aloadN hx hb dX0_doersAheadOfPage_33 (lv_at hl 0 rfl) ?_
          have J49 : ∀ (v3 : Int32) (z0 : Int32) (z1 : Int32) (H : Heap) (locs : List Loc) (hP : Pw G σ H) (hS : va_S (AG G) s.heap H locs) (ls : Array Slot) (hl : lv_has ls 5 [(0, .ref (gA G 18)), (1, .int x1), (3, .int v3)]) (hF : f_X0_doersAheadOfPage_49 x1 σ (f_X0_doersAheadOfPage_4 x1 σ fl4) v3 z0 z1 = some o), W p l e (headSpec wsX0_doersAheadOfPage ({ frames := 2, cells := 0, slots := 0, locals := 42 })).room s m ([.ref (gA G 18), .int x1] : List Value).toArray below meth c H locs 0 0 (MQ below (qR G (some (.int o)) σ) ([.ref (gA G 18), .int x1] : List Value).toArray s 0 0 (AG G)) (F0 m 49 ls [.int z1, .int z0]) := by
            intro v3 z0 z1 H locs hP hS ls hl hF
            rw [f_X0_doersAheadOfPage_49_e] at hF
            refine lv_ior hx hb dX0_doersAheadOfPage_49 ?_
            refine lv_istore_n (lv' := [(2, .int (z0 ||| z1)), (0, .ref (gA G 18)), (1, .int x1), (3, .int v3)]) hx hb dX0_doersAheadOfPage_50 rfl hl (by decide) rfl (fun ls hl => ?_)
            refine lv_iinc (v := (v3 + (1 : Int32))) (lv' := [(3, .int (v3 + (1 : Int32))), (2, .int (z0 ||| z1)), (0, .ref (gA G 18)), (1, .int x1)]) hx hb dX0_doersAheadOfPage_51 hl (k := 3) rfl rfl (by decide) rfl (fun ls hl => ?_)
            refine lv_goto (tgt := 4) hx hb dX0_doersAheadOfPage_54 (by decide) ?_
            exact ih4 (z0 ||| z1) (v3 + (1 : Int32)) _ _ hP hS ls (lv_sub hl [2, 3, 1, 0] rfl) hF
          refine lv_ifnullN (tgt := 48) hx hb dX0_doersAheadOfPage_35 (by decide) ?_
          refine lv_iconst (v := 0) hx hb dX0_doersAheadOfPage_48 (by decide) ?_
          exact J49 v3 v2 (0 : Int32) _ _ hP hS ls (lv_sub hl [1, 2, 4] rfl) hF
        · have hF := ite_f c4 hF
          refine lv_aload_n hx hb dX0_doersAheadOfPage_21 rfl (lv_at hl 0 rfl) ?_
          refine lv_iload_n hx hb dX0_doersAheadOfPage_22 rfl (lv_at hl 3 rfl) ?_
          obtain ⟨q5, h6, hF⟩ := ob_some hF
          refine k_Vv (As := [.int v3]) (rest := []) Z hK hP hS (t_X0_deedIn l G hG v3 σ _ h6) (cwV 1 hts gX0_doersAheadOfPage_X0_deedIn rfl rfl rfl (by decide +kernel) ⟨Nat.le_of_ble_eq_true rfl, Nat.le_of_ble_eq_true rfl⟩) (at_0 rfl) rfl rfl hl.1 rfl (Nat.le_of_ble_eq_true rfl) ⟨Nat.zero_le _, Nat.zero_le _⟩ dX0_doersAheadOfPage_23 (fun H locs hP hS => ?_)
          rcases q5 with _ | i7
          · have hF := oc_n hF
            refine W.eq (g2 := F0 m 26 ls [.null]) rfl ?_
            refine lv_goto (tgt := 30) hx hb dX0_doersAheadOfPage_26 (by decide) ?_
            refine lv_astoreN (lv' := [(4, .null), (0, .ref (gA G 18)), (1, .int x1), (2, .int v2), (3, .int v3)]) hx hb dX0_doersAheadOfPage_30 hl (by decide) rfl (fun ls hl => ?_)
            refine lv_iload_n hx hb dX0_doersAheadOfPage_32 rfl (lv_at hl 3 rfl) ?_
            refine lv_aloadN hx hb dX0_doersAheadOfPage_33 (lv_at hl 0 rfl) ?_
            have J49 : ∀ (v3 : Int32) (z0 : Int32) (z1 : Int32) (H : Heap) (locs : List Loc) (hP : Pw G σ H) (hS : va_S (AG G) s.heap H locs) (ls : Array Slot) (hl : lv_has ls 5 [(0, .ref (gA G 18)), (1, .int x1), (3, .int v3)]) (hF : f_X0_doersAheadOfPage_49 x1 σ (f_X0_doersAheadOfPage_4 x1 σ fl4) v3 z0 z1 = some o), W p l e (headSpec wsX0_doersAheadOfPage ({ frames := 2, cells := 0, slots := 0, locals := 42 })).room s m ([.ref (gA G 18), .int x1] : List Value).toArray below meth c H locs 0 0 (MQ below (qR G (some (.int o)) σ) ([.ref (gA G 18), .int x1] : List Value).toArray s 0 0 (AG G)) (F0 m 49 ls [.int z1, .int z0]) := by
              intro v3 z0 z1 H locs hP hS ls hl hF
              rw [f_X0_doersAheadOfPage_49_e] at hF
              refine lv_ior hx hb dX0_doersAheadOfPage_49 ?_
              refine lv_istore_n (lv' := [(2, .int (z0 ||| z1)), (0, .ref (gA G 18)), (1, .int x1), (3, .int v3)]) hx hb dX0_doersAheadOfPage_50 rfl hl (by decide) rfl (fun ls hl => ?_)
              refine lv_iinc (v := (v3 + (1 : Int32))) (lv' := [(3, .int (v3 + (1 : Int32))), (2, .int (z0 ||| z1)), (0, .ref (gA G 18)), (1, .int x1)]) hx hb dX0_doersAheadOfPage_51 hl (k := 3) rfl rfl (by decide) rfl (fun ls hl => ?_)
              refine lv_goto (tgt := 4) hx hb dX0_doersAheadOfPage_54 (by decide) ?_
              exact ih4 (z0 ||| z1) (v3 + (1 : Int32)) _ _ hP hS ls (lv_sub hl [2, 3, 1, 0] rfl) hF
            refine lv_ifnullN (tgt := 48) hx hb dX0_doersAheadOfPage_35 (by decide) ?_
            refine lv_iconst (v := 0) hx hb dX0_doersAheadOfPage_48 (by decide) ?_
            exact J49 v3 v2 (0 : Int32) _ _ hP hS ls (lv_sub hl [1, 2, 4] rfl) hF
          · have hF := oc_s hF
            have ki7 : kd i7 = 1 := q_X0_deedIn  h6
            refine W.eq (g2 := F0 m 26 ls [.ref (gA G i7)]) rfl ?_
            refine lv_goto (tgt := 30) hx hb dX0_doersAheadOfPage_26 (by decide) ?_
            refine lv_astore (lv' := [(4, .ref (gA G i7)), (0, .ref (gA G 18)), (1, .int x1), (2, .int v2), (3, .int v3)]) hx hb dX0_doersAheadOfPage_30 hl (by decide) rfl (fun ls hl => ?_)
            refine lv_iload_n hx hb dX0_doersAheadOfPage_32 rfl (lv_at hl 3 rfl) ?_
            refine lv_aload hx hb dX0_doersAheadOfPage_33 (lv_at hl 0 rfl) ?_
            have J49 : ∀ (v3 : Int32) (z0 : Int32) (z1 : Int32) (H : Heap) (locs : List Loc) (hP : Pw G σ H) (hS : va_S (AG G) s.heap H locs) (ls : Array Slot) (hl : lv_has ls 5 [(0, .ref (gA G 18)), (1, .int x1), (3, .int v3)]) (hF : f_X0_doersAheadOfPage_49 x1 σ (f_X0_doersAheadOfPage_4 x1 σ fl4) v3 z0 z1 = some o), W p l e (headSpec wsX0_doersAheadOfPage ({ frames := 2, cells := 0, slots := 0, locals := 42 })).room s m ([.ref (gA G 18), .int x1] : List Value).toArray below meth c H locs 0 0 (MQ below (qR G (some (.int o)) σ) ([.ref (gA G 18), .int x1] : List Value).toArray s 0 0 (AG G)) (F0 m 49 ls [.int z1, .int z0]) := by
              intro v3 z0 z1 H locs hP hS ls hl hF
              rw [f_X0_doersAheadOfPage_49_e] at hF
              refine lv_ior hx hb dX0_doersAheadOfPage_49 ?_
              refine lv_istore_n (lv' := [(2, .int (z0 ||| z1)), (0, .ref (gA G 18)), (1, .int x1), (3, .int v3)]) hx hb dX0_doersAheadOfPage_50 rfl hl (by decide) rfl (fun ls hl => ?_)
              refine lv_iinc (v := (v3 + (1 : Int32))) (lv' := [(3, .int (v3 + (1 : Int32))), (2, .int (z0 ||| z1)), (0, .ref (gA G 18)), (1, .int x1)]) hx hb dX0_doersAheadOfPage_51 hl (k := 3) rfl rfl (by decide) rfl (fun ls hl => ?_)
              refine lv_goto (tgt := 4) hx hb dX0_doersAheadOfPage_54 (by decide) ?_
              exact ih4 (z0 ||| z1) (v3 + (1 : Int32)) _ _ hP hS ls (lv_sub hl [2, 3, 1, 0] rfl) hF
            refine lv_ifnull hx hb dX0_doersAheadOfPage_35 ?_
            refine lv_iconst (v := 1) hx hb dX0_doersAheadOfPage_38 (by decide) ?_
            refine lv_aload hx hb dX0_doersAheadOfPage_39 (lv_at hl 0 rfl) ?_
            refine va_getN (ci := 1) (C := RX1) (T := TX1) (N := 7) (v := .int (σ i7 3)) hx hb hts inX1 hown hK.1 hP i7 (at_1 ki7) rfl 3 (by decide) w2 (fun _ h9 => h9) rfl dX0_doersAheadOfPage_41 ?_
            refine lv_ishl hx hb dX0_doersAheadOfPage_44 ?_
            refine lv_goto (tgt := 49) hx hb dX0_doersAheadOfPage_45 (by decide) ?_
            exact J49 v3 v2 ((1 : Int32) <<< ((σ i7 3) &&& 31)) _ _ hP hS ls (lv_sub hl [1, 2, 4] rfl) hF
  refine lv_istore_n (lv' := [(3, .int (0 : Int32)), (2, .int (0 : Int32)), (0, .ref (gA G 18)), (1, .int x1)]) hx hb dX0_doersAheadOfPage_3 rfl hl (by decide) rfl (fun ls hl => ?_)
  exact J4 fu (0 : Int32) (0 : Int32) _ _ hP hS ls (lv_sub hl [2, 3, 1, 0] rfl) hF
def f_X0_dayAt (x1 : Int32) (σ : St) : Option Int32 := (ob (f_X0_deedIn x1 σ) (fun q1 => oc q1 ((some ((f_X7_lastDay 21 σ) + (1 : Int32)))) (fun i3 => (some (σ i3 2)))))
set_option maxRecDepth 100000 in
set_option maxHeartbeats 4000000 in
theorem t_X0_dayAt (l : Launch) (G : GT) (hG : Dw G) (x1 : Int32) (σ : St) (o : Int32) (hF : f_X0_dayAt x1 σ = some o) : Ct l G yX0_dayAt wsX0_dayAt 2 42 [.ref (gA G 18), .int x1] σ (some (.int o)) σ := by
  refine Met.ofW (cc := cX0_dayAt) (maxL := 3) (ret := (some .int)) (by decide) rfl ?_
  intro p e s m args below meth c s₁ B hml hv
  obtain ⟨rfl, hP, hK⟩ := hv
  have hx := B.exec
  have hb := B.bytes
  have hr := B.returns
  have hts := atoms_spec (ws := wsX0_dayAt) B.pre
  have hown : s.vm.findClass RX0 = some m.cls := findClass_of_methodNamed B.named
  have hlocks := B.notSynchronized
  have Z : CallFix p m c cX0_dayAt 3 s _ wsX0_dayAt RX0 := ⟨hx, hb, hml, hown, hts⟩
  have hS : va_S (AG G) s.heap s.heap [] := va_S.rf
  have inX0 : ∀ w ∈ u_ws RX0 TX0 5, w ∈ wsX0_dayAt := by decide +kernel
  have inX1 : ∀ w ∈ u_ws RX1 TX1 7, w ∈ wsX0_dayAt := by decide +kernel
  have w1 := hts (.fieldLink RX0 12 "AlmanacOfTheYearGone$Almanac" "year" "LAlmanacOfTheYearGone$Year;") (by decide +kernel)
  have w2 := hts (.initialized RX7) (by decide +kernel)
  have w3n : va_Nw (.methodLinkNest "AlmanacOfTheYearGone$Almanac" 87 ⟨"AlmanacOfTheYearGone$Year", "lastDay", "()I"⟩ "AlmanacOfTheYearGone") s := hK.2 _ (List.mem_of_getElem? (i := 105) rfl)
  have w3 := va_Nw.use (A := [.ref (gA G 18), .int x1].toArray) rfl w3n
  have w4 := hts (.instanceMethod yX7_lastDay) (by decide +kernel)
  have w5 := hts (.selects RX7 yX7_lastDay yX7_lastDay) (by decide +kernel)
  have w6n : va_Nw (.fieldLinkNest "AlmanacOfTheYearGone$Almanac" 53 "AlmanacOfTheYearGone$Deed" "day" "I" "AlmanacOfTheYearGone") s := hK.2 _ (List.mem_of_getElem? (i := 14) rfl)
  have w6 := va_Nw.use (A := [.ref (gA G 18), .int x1].toArray) rfl w6n
  have hl := lv_entry ([.ref (gA G 18), .int x1]) (n := 3) (Nat.le_of_ble_eq_true rfl)
  rw [lg_entry_eq]
  generalize (lg_sl ([.ref (gA G 18), .int x1]) ++ List.replicate (3 - (lg_sl ([.ref (gA G 18), .int x1])).length) Slot.unset).toArray = ls at hl ⊢
  have hl : lv_has ls 3 [(0, .ref (gA G 18)), (1, .int x1)] := hl
  unfold f_X0_dayAt at hF
  refine lv_aload_n hx hb dX0_dayAt_0 rfl (lv_at hl 0 rfl) ?_
  refine lv_iload_n hx hb dX0_dayAt_1 rfl (lv_at hl 1 rfl) ?_
  obtain ⟨q1, h2, hF⟩ := ob_some hF
  refine k_Vv (As := [.int x1]) (rest := []) Z hK hP hS (t_X0_deedIn l G hG x1 σ _ h2) (cwV 1 hts gX0_dayAt_X0_deedIn rfl rfl rfl (by decide +kernel) ⟨Nat.le_of_ble_eq_true rfl, Nat.le_of_ble_eq_true rfl⟩) (at_0 rfl) rfl rfl hl.1 rfl (Nat.le_of_ble_eq_true rfl) ⟨Nat.zero_le _, Nat.zero_le _⟩ dX0_dayAt_2 (fun H locs hP hS => ?_)
  rcases q1 with _ | i3
  · have hF := oc_n hF
    refine W.eq (g2 := F0 m 5 ls [.null]) rfl ?_
    refine lv_astore_nN (lv' := [(2, .null), (0, .ref (gA G 18)), (1, .int x1)]) hx hb dX0_dayAt_5 rfl hl (by decide) rfl (fun ls hl => ?_)
    refine lv_aload_nN hx hb dX0_dayAt_6 rfl (lv_at hl 0 rfl) ?_
    refine lv_ifnullN (tgt := 17) hx hb dX0_dayAt_7 (by decide) ?_
    refine lv_aload_n hx hb dX0_dayAt_17 rfl (lv_at hl 1 rfl) ?_
    refine va_get (ci := 0) (C := RX0) (T := TX0) (N := 5) (v := .ref (gA G 21)) hx hb hts inX0 hown hK.1 hP 18 (at_0 rfl) rfl 0 (by decide) w1 (fun _ h9 => h9) rfl dX0_dayAt_18 ?_
    refine k_VNv (As := []) (rest := []) Z hK hP hS (t_X7_lastDay l G hG 21 (rfl : kd 21 = 3) σ) ⟨va_cnB 0 hts gX0_dayAt_X7_lastDay_n87 rfl rfl rfl w3n w2 (by decide +kernel) ⟨Nat.le_of_ble_eq_true rfl, Nat.le_of_ble_eq_true rfl⟩, w4, w5⟩ (at_3 (rfl : kd 21 = 3)) rfl rfl hl.1 rfl (Nat.le_of_ble_eq_true rfl) ⟨Nat.zero_le _, Nat.zero_le _⟩ dX0_dayAt_21 (fun H locs hP hS => ?_)
    refine lv_iconst (v := 1) hx hb dX0_dayAt_24 (by decide) ?_
    refine lv_iadd hx hb dX0_dayAt_25 ?_
    exact e_iP hx hb hr hP hS hlocks dX0_dayAt_26 hF
  · have hF := oc_s hF
    have ki3 : kd i3 = 1 := q_X0_deedIn  h2
    refine W.eq (g2 := F0 m 5 ls [.ref (gA G i3)]) rfl ?_
    refine lv_astore_n (lv' := [(2, .ref (gA G i3)), (0, .ref (gA G 18)), (1, .int x1)]) hx hb dX0_dayAt_5 rfl hl (by decide) rfl (fun ls hl => ?_)
    refine lv_aload_n hx hb dX0_dayAt_6 rfl (lv_at hl 0 rfl) ?_
    refine lv_ifnull hx hb dX0_dayAt_7 ?_
    refine lv_aload_n hx hb dX0_dayAt_10 rfl (lv_at hl 0 rfl) ?_
    refine va_getN (ci := 1) (C := RX1) (T := TX1) (N := 7) (v := .int (σ i3 2)) hx hb hts inX1 hown hK.1 hP i3 (at_1 ki3) rfl 2 (by decide) w6 (fun _ h9 => h9) rfl dX0_dayAt_11 ?_
    refine lv_goto (tgt := 26) hx hb dX0_dayAt_14 (by decide) ?_
    exact e_iP hx hb hr hP hS hlocks dX0_dayAt_26 hF
def f_X0_longestGap_6 (σ : St) : Nat → (Int32 → Int32 → Int32 → Option Int32)
  | 0 => fun _ _ _ => none
  | fl + 1 => fun v1 v2 v3 => (if (σ 18 3) < v3 then (some v1) else (ob (f_X0_dayAt v3 σ) (fun q2 => ob (f_X0_dayAt v3 σ) (fun q4 => (f_X0_longestGap_6 σ fl) (if v1 < q2 - v2 then q2 - v2 else v1) (q4 + (1 : Int32)) (v3 + (1 : Int32))))))
theorem f_X0_longestGap_6_s {σ : St} (fl : Nat) {v1 : Int32} {v2 : Int32} {v3 : Int32} : f_X0_longestGap_6 σ (fl + 1) v1 v2 v3 = (if (σ 18 3) < v3 then (some v1) else (ob (f_X0_dayAt v3 σ) (fun q2 => ob (f_X0_dayAt v3 σ) (fun q4 => (f_X0_longestGap_6 σ fl) (if v1 < q2 - v2 then q2 - v2 else v1) (q4 + (1 : Int32)) (v3 + (1 : Int32)))))) := rfl
def f_X0_longestGap (σ : St) : Option Int32 := (f_X0_longestGap_6 σ fu (0 : Int32) (0 : Int32) (0 : Int32))
set_option maxRecDepth 100000 in
set_option maxHeartbeats 4000000 in
theorem t_X0_longestGap (l : Launch) (G : GT) (hG : Dw G) (σ : St) (o : Int32) (hF : f_X0_longestGap σ = some o) : Ct l G yX0_longestGap wsX0_longestGap 3 64 [.ref (gA G 18)] σ (some (.int o)) σ := by
  refine Met.ofW (cc := cX0_longestGap) (maxL := 4) (ret := (some .int)) (by decide) rfl ?_
  intro p e s m args below meth c s₁ B hml hv
  obtain ⟨rfl, hP, hK⟩ := hv
  have hx := B.exec
  have hb := B.bytes
  have hr := B.returns
  have hts := atoms_spec (ws := wsX0_longestGap) B.pre
  have hown : s.vm.findClass RX0 = some m.cls := findClass_of_methodNamed B.named
  have hlocks := B.notSynchronized
  have Z : CallFix p m c cX0_longestGap 4 s _ wsX0_longestGap RX0 := ⟨hx, hb, hml, hown, hts⟩
  have hS : va_S (AG G) s.heap s.heap [] := va_S.rf
  have inX0 : ∀ w ∈ u_ws RX0 TX0 5, w ∈ wsX0_longestGap := by decide +kernel
  have w1 := hts (.fieldLink RX0 25 "AlmanacOfTheYearGone$Almanac" "printed" "I") (by decide +kernel)
  have w2 := hts (.methodLink RX0 93 Lib.Math.max.name) (by decide +kernel)
  have w3 := hts (.static Lib.Math.max.name) (by decide +kernel)
  have w4 := hts (.initialized "java/lang/Math") (by decide +kernel)
  have w5 := hts (.code Lib.Math.max.name Lib.Math.max.code 2 (some .int)) (by decide +kernel)
  have hl := lv_entry ([.ref (gA G 18)]) (n := 4) (Nat.le_of_ble_eq_true rfl)
  rw [lg_entry_eq]
  generalize (lg_sl ([.ref (gA G 18)]) ++ List.replicate (4 - (lg_sl ([.ref (gA G 18)])).length) Slot.unset).toArray = ls at hl ⊢
  have hl : lv_has ls 4 [(0, .ref (gA G 18))] := hl
  unfold f_X0_longestGap at hF
  refine lv_iconst (v := 0) hx hb dX0_longestGap_0 (by decide) ?_
  refine lv_istore_n (lv' := [(1, .int (0 : Int32)), (0, .ref (gA G 18))]) hx hb dX0_longestGap_1 rfl hl (by decide) rfl (fun ls hl => ?_)
  refine lv_iconst (v := 0) hx hb dX0_longestGap_2 (by decide) ?_
  refine lv_istore_n (lv' := [(2, .int (0 : Int32)), (1, .int (0 : Int32)), (0, .ref (gA G 18))]) hx hb dX0_longestGap_3 rfl hl (by decide) rfl (fun ls hl => ?_)
  refine lv_iconst (v := 0) hx hb dX0_longestGap_4 (by decide) ?_
  have J6 : ∀ (fl : Nat) (v1 : Int32) (v2 : Int32) (v3 : Int32) (H : Heap) (locs : List Loc) (hP : Pw G σ H) (hS : va_S (AG G) s.heap H locs) (ls : Array Slot) (hl : lv_has ls 4 [(0, .ref (gA G 18)), (1, .int v1), (2, .int v2), (3, .int v3)]) (hF : f_X0_longestGap_6 σ fl v1 v2 v3 = some o), W p l e (headSpec wsX0_longestGap ({ frames := 3, cells := 0, slots := 0, locals := 64 })).room s m ([.ref (gA G 18)] : List Value).toArray below meth c H locs 0 0 (MQ below (qR G (some (.int o)) σ) ([.ref (gA G 18)] : List Value).toArray s 0 0 (AG G)) (F0 m 6 ls []) := by
    intro fl6
    induction fl6 with
    | zero => intro v1 v2 v3 H locs hP hS ls hl hF; cases hF
    | succ fl6 ih6 =>
      intro v1 v2 v3 H locs hP hS ls hl hF
      rw [f_X0_longestGap_6_s] at hF
      refine lv_iload_n hx hb dX0_longestGap_6 rfl (lv_at hl 3 rfl) ?_
      refine lv_aload_n hx hb dX0_longestGap_7 rfl (lv_at hl 0 rfl) ?_
      refine va_get (ci := 0) (C := RX0) (T := TX0) (N := 5) (v := .int (σ 18 3)) hx hb hts inX0 hown hK.1 hP 18 (at_0 rfl) rfl 3 (by decide) w1 (fun _ h9 => h9) rfl dX0_longestGap_8 ?_
      refine lv_icmp_gt (tgt := 40) hx hb dX0_longestGap_11 (by decide) (fun c1 => ?_) (fun c1 => ?_)
      · have hF := ite_t c1 hF
        refine lv_iload_n hx hb dX0_longestGap_40 rfl (lv_at hl 1 rfl) ?_
        exact e_iP hx hb hr hP hS hlocks dX0_longestGap_41 hF
      · have hF := ite_f c1 hF
        refine lv_iload_n hx hb dX0_longestGap_14 rfl (lv_at hl 1 rfl) ?_
        refine lv_aload_n hx hb dX0_longestGap_15 rfl (lv_at hl 0 rfl) ?_
        refine lv_iload_n hx hb dX0_longestGap_16 rfl (lv_at hl 3 rfl) ?_
        obtain ⟨q2, h3, hF⟩ := ob_some hF
        refine k_Vv (As := [.int v3]) (rest := [.int v1]) Z hK hP hS (t_X0_dayAt l G hG v3 σ _ h3) (cwV 1 hts gX0_longestGap_X0_dayAt rfl rfl rfl (by decide +kernel) ⟨Nat.le_of_ble_eq_true rfl, Nat.le_of_ble_eq_true rfl⟩) (at_0 rfl) rfl rfl hl.1 rfl (Nat.le_of_ble_eq_true rfl) ⟨Nat.zero_le _, Nat.zero_le _⟩ dX0_longestGap_17 (fun H locs hP hS => ?_)
        refine lv_iload_n hx hb dX0_longestGap_20 rfl (lv_at hl 2 rfl) ?_
        refine lv_isub hx hb dX0_longestGap_21 ?_
        refine va_mmax hx hb (hml.trans hl.1.symm) hown w2 w3 w4 w5 (Nat.le_of_ble_eq_true rfl) (Nat.le_of_ble_eq_true rfl) (Nat.zero_le _) (Nat.zero_le _) dX0_longestGap_22 ?_
        refine lv_istore_n (lv' := [(1, .int (if v1 < q2 - v2 then q2 - v2 else v1)), (0, .ref (gA G 18)), (2, .int v2), (3, .int v3)]) hx hb dX0_longestGap_25 rfl hl (by decide) rfl (fun ls hl => ?_)
        refine lv_aload_n hx hb dX0_longestGap_26 rfl (lv_at hl 1 rfl) ?_
        refine lv_iload_n hx hb dX0_longestGap_27 rfl (lv_at hl 3 rfl) ?_
        obtain ⟨q4, h5, hF⟩ := ob_some hF
        refine k_Vv (As := [.int v3]) (rest := []) Z hK hP hS (t_X0_dayAt l G hG v3 σ _ h5) (cwV 1 hts gX0_longestGap_X0_dayAt rfl rfl rfl (by decide +kernel) ⟨Nat.le_of_ble_eq_true rfl, Nat.le_of_ble_eq_true rfl⟩) (at_0 rfl) rfl rfl hl.1 rfl (Nat.le_of_ble_eq_true rfl) ⟨Nat.zero_le _, Nat.zero_le _⟩ dX0_longestGap_28 (fun H locs hP hS => ?_)
        refine lv_iconst (v := 1) hx hb dX0_longestGap_31 (by decide) ?_
        refine lv_iadd hx hb dX0_longestGap_32 ?_
        refine lv_istore_n (lv' := [(2, .int (q4 + (1 : Int32))), (1, .int (if v1 < q2 - v2 then q2 - v2 else v1)), (0, .ref (gA G 18)), (3, .int v3)]) hx hb dX0_longestGap_33 rfl hl (by decide) rfl (fun ls hl => ?_)
        refine lv_iinc (v := (v3 + (1 : Int32))) (lv' := [(3, .int (v3 + (1 : Int32))), (2, .int (q4 + (1 : Int32))), (1, .int (if v1 < q2 - v2 then q2 - v2 else v1)), (0, .ref (gA G 18))]) hx hb dX0_longestGap_34 hl (k := 3) rfl rfl (by decide) rfl (fun ls hl => ?_)
        refine lv_goto (tgt := 6) hx hb dX0_longestGap_37 (by decide) ?_
        exact ih6 (if v1 < q2 - v2 then q2 - v2 else v1) (q4 + (1 : Int32)) (v3 + (1 : Int32)) _ _ hP hS ls (lv_sub hl [3, 2, 1, 0] rfl) hF
  refine lv_istore_n (lv' := [(3, .int (0 : Int32)), (2, .int (0 : Int32)), (1, .int (0 : Int32)), (0, .ref (gA G 18))]) hx hb dX0_longestGap_5 rfl hl (by decide) rfl (fun ls hl => ?_)
  exact J6 fu (0 : Int32) (0 : Int32) (0 : Int32) _ _ hP hS ls (lv_sub hl [3, 2, 1, 0] rfl) hF
def f_X0_firstOfLongestGap_9 (σ : St) : Nat → (Int32 → Int32 → Int32 → Option Int32)
  | 0 => fun _ _ _ => none
  | fl + 1 => fun v1 v2 v3 => (if (σ 18 3) < v3 then (some (-4 : Int32)) else (if v1 ≤ 0 then (some (-4 : Int32)) else (ob (f_X0_dayAt v3 σ) (fun q5 => if (q5 - v2) = v1 then (some v2) else (ob (f_X0_dayAt v3 σ) (fun q8 => (f_X0_firstOfLongestGap_9 σ fl) v1 (q8 + (1 : Int32)) (v3 + (1 : Int32))))))))
theorem f_X0_firstOfLongestGap_9_s {σ : St} (fl : Nat) {v1 : Int32} {v2 : Int32} {v3 : Int32} : f_X0_firstOfLongestGap_9 σ (fl + 1) v1 v2 v3 = (if (σ 18 3) < v3 then (some (-4 : Int32)) else (if v1 ≤ 0 then (some (-4 : Int32)) else (ob (f_X0_dayAt v3 σ) (fun q5 => if (q5 - v2) = v1 then (some v2) else (ob (f_X0_dayAt v3 σ) (fun q8 => (f_X0_firstOfLongestGap_9 σ fl) v1 (q8 + (1 : Int32)) (v3 + (1 : Int32)))))))) := rfl
def f_X0_firstOfLongestGap (σ : St) : Option Int32 := (ob (f_X0_longestGap σ) (fun q1 => f_X0_firstOfLongestGap_9 σ fu q1 (0 : Int32) (0 : Int32)))
set_option maxRecDepth 100000 in
set_option maxHeartbeats 4000000 in
theorem t_X0_firstOfLongestGap (l : Launch) (G : GT) (hG : Dw G) (σ : St) (o : Int32) (hF : f_X0_firstOfLongestGap σ = some o) : Ct l G yX0_firstOfLongestGap wsX0_firstOfLongestGap 4 87 [.ref (gA G 18)] σ (some (.int o)) σ := by
  refine Met.ofW (cc := cX0_firstOfLongestGap) (maxL := 4) (ret := (some .int)) (by decide) rfl ?_
  intro p e s m args below meth c s₁ B hml hv
  obtain ⟨rfl, hP, hK⟩ := hv
  have hx := B.exec
  have hb := B.bytes
  have hr := B.returns
  have hts := atoms_spec (ws := wsX0_firstOfLongestGap) B.pre
  have hown : s.vm.findClass RX0 = some m.cls := findClass_of_methodNamed B.named
  have hlocks := B.notSynchronized
  have Z : CallFix p m c cX0_firstOfLongestGap 4 s _ wsX0_firstOfLongestGap RX0 := ⟨hx, hb, hml, hown, hts⟩
  have hS : va_S (AG G) s.heap s.heap [] := va_S.rf
  have inX0 : ∀ w ∈ u_ws RX0 TX0 5, w ∈ wsX0_firstOfLongestGap := by decide +kernel
  have w1 := hts (.fieldLink RX0 25 "AlmanacOfTheYearGone$Almanac" "printed" "I") (by decide +kernel)
  have hl := lv_entry ([.ref (gA G 18)]) (n := 4) (Nat.le_of_ble_eq_true rfl)
  rw [lg_entry_eq]
  generalize (lg_sl ([.ref (gA G 18)]) ++ List.replicate (4 - (lg_sl ([.ref (gA G 18)])).length) Slot.unset).toArray = ls at hl ⊢
  have hl : lv_has ls 4 [(0, .ref (gA G 18))] := hl
  unfold f_X0_firstOfLongestGap at hF
  refine lv_aload_n hx hb dX0_firstOfLongestGap_0 rfl (lv_at hl 0 rfl) ?_
  obtain ⟨q1, h2, hF⟩ := ob_some hF
  refine k_Vv (As := []) (rest := []) Z hK hP hS (t_X0_longestGap l G hG σ _ h2) (cwV 0 hts gX0_firstOfLongestGap_X0_longestGap rfl rfl rfl (by decide +kernel) ⟨Nat.le_of_ble_eq_true rfl, Nat.le_of_ble_eq_true rfl⟩) (at_0 rfl) rfl rfl hl.1 rfl (Nat.le_of_ble_eq_true rfl) ⟨Nat.zero_le _, Nat.zero_le _⟩ dX0_firstOfLongestGap_1 (fun H locs hP hS => ?_)
  refine lv_istore_n (lv' := [(1, .int q1), (0, .ref (gA G 18))]) hx hb dX0_firstOfLongestGap_4 rfl hl (by decide) rfl (fun ls hl => ?_)
  refine lv_iconst (v := 0) hx hb dX0_firstOfLongestGap_5 (by decide) ?_
  refine lv_istore_n (lv' := [(2, .int (0 : Int32)), (1, .int q1), (0, .ref (gA G 18))]) hx hb dX0_firstOfLongestGap_6 rfl hl (by decide) rfl (fun ls hl => ?_)
  refine lv_iconst (v := 0) hx hb dX0_firstOfLongestGap_7 (by decide) ?_
  have J9 : ∀ (fl : Nat) (v1 : Int32) (v2 : Int32) (v3 : Int32) (H : Heap) (locs : List Loc) (hP : Pw G σ H) (hS : va_S (AG G) s.heap H locs) (ls : Array Slot) (hl : lv_has ls 4 [(0, .ref (gA G 18)), (1, .int v1), (2, .int v2), (3, .int v3)]) (hF : f_X0_firstOfLongestGap_9 σ fl v1 v2 v3 = some o), W p l e (headSpec wsX0_firstOfLongestGap ({ frames := 4, cells := 0, slots := 0, locals := 87 })).room s m ([.ref (gA G 18)] : List Value).toArray below meth c H locs 0 0 (MQ below (qR G (some (.int o)) σ) ([.ref (gA G 18)] : List Value).toArray s 0 0 (AG G)) (F0 m 9 ls []) := by
    intro fl9
    induction fl9 with
    | zero => intro v1 v2 v3 H locs hP hS ls hl hF; cases hF
    | succ fl9 ih9 =>
      intro v1 v2 v3 H locs hP hS ls hl hF
      rw [f_X0_firstOfLongestGap_9_s] at hF
      refine lv_iload_n hx hb dX0_firstOfLongestGap_9 rfl (lv_at hl 3 rfl) ?_
      refine lv_aload_n hx hb dX0_firstOfLongestGap_10 rfl (lv_at hl 0 rfl) ?_
      refine va_get (ci := 0) (C := RX0) (T := TX0) (N := 5) (v := .int (σ 18 3)) hx hb hts inX0 hown hK.1 hP 18 (at_0 rfl) rfl 3 (by decide) w1 (fun _ h9 => h9) rfl dX0_firstOfLongestGap_11 ?_
      refine lv_icmp_gt (tgt := 48) hx hb dX0_firstOfLongestGap_14 (by decide) (fun c3 => ?_) (fun c3 => ?_)
      · have hF := ite_t c3 hF
        refine lv_bipush (v := -4) hx hb dX0_firstOfLongestGap_48 (by decide) ?_
        exact e_iP hx hb hr hP hS hlocks dX0_firstOfLongestGap_50 hF
      · have hF := ite_f c3 hF
        refine lv_iload_n hx hb dX0_firstOfLongestGap_17 rfl (lv_at hl 1 rfl) ?_
        refine lv_if_le (tgt := 48) hx hb dX0_firstOfLongestGap_18 (by decide) (fun c4 => ?_) (fun c4 => ?_)
        · have hF := ite_t c4 hF
          refine lv_bipush (v := -4) hx hb dX0_firstOfLongestGap_48 (by decide) ?_
          exact e_iP hx hb hr hP hS hlocks dX0_firstOfLongestGap_50 hF
        · have hF := ite_f c4 hF
          refine lv_aload_n hx hb dX0_firstOfLongestGap_21 rfl (lv_at hl 0 rfl) ?_
          refine lv_iload_n hx hb dX0_firstOfLongestGap_22 rfl (lv_at hl 3 rfl) ?_
          obtain ⟨q5, h6, hF⟩ := ob_some hF
          refine k_Vv (As := [.int v3]) (rest := []) Z hK hP hS (t_X0_dayAt l G hG v3 σ _ h6) (cwV 1 hts gX0_firstOfLongestGap_X0_dayAt rfl rfl rfl (by decide +kernel) ⟨Nat.le_of_ble_eq_true rfl, Nat.le_of_ble_eq_true rfl⟩) (at_0 rfl) rfl rfl hl.1 rfl (Nat.le_of_ble_eq_true rfl) ⟨Nat.zero_le _, Nat.zero_le _⟩ dX0_firstOfLongestGap_23 (fun H locs hP hS => ?_)
          refine lv_iload_n hx hb dX0_firstOfLongestGap_26 rfl (lv_at hl 2 rfl) ?_
          refine lv_isub hx hb dX0_firstOfLongestGap_27 ?_
          refine lv_iload_n hx hb dX0_firstOfLongestGap_28 rfl (lv_at hl 1 rfl) ?_
          refine lv_icmp_ne (tgt := 34) hx hb dX0_firstOfLongestGap_29 (by decide) (fun c7 => ?_) (fun c7 => ?_)
          · have hF := ite_f c7 hF
            refine lv_aload_n hx hb dX0_firstOfLongestGap_34 rfl (lv_at hl 0 rfl) ?_
            refine lv_iload_n hx hb dX0_firstOfLongestGap_35 rfl (lv_at hl 3 rfl) ?_
            obtain ⟨q8, h9, hF⟩ := ob_some hF
            refine k_Vv (As := [.int v3]) (rest := []) Z hK hP hS (t_X0_dayAt l G hG v3 σ _ h9) (cwV 1 hts gX0_firstOfLongestGap_X0_dayAt rfl rfl rfl (by decide +kernel) ⟨Nat.le_of_ble_eq_true rfl, Nat.le_of_ble_eq_true rfl⟩) (at_0 rfl) rfl rfl hl.1 rfl (Nat.le_of_ble_eq_true rfl) ⟨Nat.zero_le _, Nat.zero_le _⟩ dX0_firstOfLongestGap_36 (fun H locs hP hS => ?_)
            refine lv_iconst (v := 1) hx hb dX0_firstOfLongestGap_39 (by decide) ?_
            refine lv_iadd hx hb dX0_firstOfLongestGap_40 ?_
            refine lv_istore_n (lv' := [(2, .int (q8 + (1 : Int32))), (0, .ref (gA G 18)), (1, .int v1), (3, .int v3)]) hx hb dX0_firstOfLongestGap_41 rfl hl (by decide) rfl (fun ls hl => ?_)
            refine lv_iinc (v := (v3 + (1 : Int32))) (lv' := [(3, .int (v3 + (1 : Int32))), (2, .int (q8 + (1 : Int32))), (0, .ref (gA G 18)), (1, .int v1)]) hx hb dX0_firstOfLongestGap_42 hl (k := 3) rfl rfl (by decide) rfl (fun ls hl => ?_)
            refine lv_goto (tgt := 9) hx hb dX0_firstOfLongestGap_45 (by decide) ?_
            exact ih9 v1 (q8 + (1 : Int32)) (v3 + (1 : Int32)) _ _ hP hS ls (lv_sub hl [2, 3, 1, 0] rfl) hF
          · have hF := ite_t c7 hF
            refine lv_iload_n hx hb dX0_firstOfLongestGap_32 rfl (lv_at hl 2 rfl) ?_
            exact e_iP hx hb hr hP hS hlocks dX0_firstOfLongestGap_33 hF
  refine lv_istore_n (lv' := [(3, .int (0 : Int32)), (2, .int (0 : Int32)), (1, .int q1), (0, .ref (gA G 18))]) hx hb dX0_firstOfLongestGap_8 rfl hl (by decide) rfl (fun ls hl => ?_)
  exact J9 fu q1 (0 : Int32) (0 : Int32) _ _ hP hS ls (lv_sub hl [3, 2, 1, 0] rfl) hF
def f_X0_firstForged_2 (i1 : Nat) (σ : St) : Nat → (Int32 → Option Int32)
  | 0 => fun _ => none
  | fl + 1 => fun v2 => (if (σ i1 1) ≤ v2 then (some (-4 : Int32)) else (if (σ 18 3) ≤ v2 then (some v2) else (ob (f_X5_cell i1 v2 σ) (fun q3 => ob (f_X0_numberIn v2 σ) (fun q5 => if q3 = q5 then ((f_X0_firstForged_2 i1 σ fl) (v2 + (1 : Int32))) else (some v2))))))
theorem f_X0_firstForged_2_s {i1 : Nat} {σ : St} (fl : Nat) {v2 : Int32} : f_X0_firstForged_2 i1 σ (fl + 1) v2 = (if (σ i1 1) ≤ v2 then (some (-4 : Int32)) else (if (σ 18 3) ≤ v2 then (some v2) else (ob (f_X5_cell i1 v2 σ) (fun q3 => ob (f_X0_numberIn v2 σ) (fun q5 => if q3 = q5 then ((f_X0_firstForged_2 i1 σ fl) (v2 + (1 : Int32))) else (some v2)))))) := rfl
def f_X0_firstForged (i1 : Nat) (σ : St) : Option Int32 := (f_X0_firstForged_2 i1 σ fu (0 : Int32))
set_option maxRecDepth 100000 in
set_option maxHeartbeats 4000000 in
theorem t_X0_firstForged (l : Launch) (G : GT) (hG : Dw G) (i1 : Nat) (hk1 : kd i1 = 2) (σ : St) (o : Int32) (hF : f_X0_firstForged i1 σ = some o) : Ct l G yX0_firstForged wsX0_firstForged 1 21 [.ref (gA G 18), .ref (gA G i1)] σ (some (.int o)) σ := by
  refine Met.ofW (cc := cX0_firstForged) (maxL := 3) (ret := (some .int)) (by decide) rfl ?_
  intro p e s m args below meth c s₁ B hml hv
  obtain ⟨rfl, hP, hK⟩ := hv
  have hx := B.exec
  have hb := B.bytes
  have hr := B.returns
  have hts := atoms_spec (ws := wsX0_firstForged) B.pre
  have hown : s.vm.findClass RX0 = some m.cls := findClass_of_methodNamed B.named
  have hlocks := B.notSynchronized
  have Z : CallFix p m c cX0_firstForged 3 s _ wsX0_firstForged RX0 := ⟨hx, hb, hml, hown, hts⟩
  have hS : va_S (AG G) s.heap s.heap [] := va_S.rf
  have inX5 : ∀ w ∈ u_ws RX5 TX5 5, w ∈ wsX0_firstForged := by decide +kernel
  have inX0 : ∀ w ∈ u_ws RX0 TX0 5, w ∈ wsX0_firstForged := by decide +kernel
  have w1n : va_Nw (.fieldLinkNest "AlmanacOfTheYearGone$Almanac" 102 "AlmanacOfTheYearGone$Shelf" "length" "I" "AlmanacOfTheYearGone") s := hK.2 _ (List.mem_of_getElem? (i := 3) rfl)
  have w1 := va_Nw.use (A := [.ref (gA G 18), .ref (gA G i1)].toArray) rfl w1n
  have w2 := hts (.fieldLink RX0 25 "AlmanacOfTheYearGone$Almanac" "printed" "I") (by decide +kernel)
  have w3 := hts (.initialized RX5) (by decide +kernel)
  have w4n : va_Nw (.methodLinkNest "AlmanacOfTheYearGone$Almanac" 107 ⟨"AlmanacOfTheYearGone$Shelf", "cell", "(I)I"⟩ "AlmanacOfTheYearGone") s := hK.2 _ (List.mem_of_getElem? (i := 110) rfl)
  have w4 := va_Nw.use (A := [.ref (gA G 18), .ref (gA G i1)].toArray) rfl w4n
  have w5 := hts (.instanceMethod yX5_cell) (by decide +kernel)
  have w6 := hts (.selects RX5 yX5_cell yX5_cell) (by decide +kernel)
  have hl := lv_entry ([.ref (gA G 18), .ref (gA G i1)]) (n := 3) (Nat.le_of_ble_eq_true rfl)
  rw [lg_entry_eq]
  generalize (lg_sl ([.ref (gA G 18), .ref (gA G i1)]) ++ List.replicate (3 - (lg_sl ([.ref (gA G 18), .ref (gA G i1)])).length) Slot.unset).toArray = ls at hl ⊢
  have hl : lv_has ls 3 [(0, .ref (gA G 18)), (1, .ref (gA G i1))] := hl
  unfold f_X0_firstForged at hF
  refine lv_iconst (v := 0) hx hb dX0_firstForged_0 (by decide) ?_
  have J2 : ∀ (fl : Nat) (v2 : Int32) (H : Heap) (locs : List Loc) (hP : Pw G σ H) (hS : va_S (AG G) s.heap H locs) (ls : Array Slot) (hl : lv_has ls 3 [(0, .ref (gA G 18)), (1, .ref (gA G i1)), (2, .int v2)]) (hF : f_X0_firstForged_2 i1 σ fl v2 = some o), W p l e (headSpec wsX0_firstForged ({ frames := 1, cells := 0, slots := 0, locals := 21 })).room s m ([.ref (gA G 18), .ref (gA G i1)] : List Value).toArray below meth c H locs 0 0 (MQ below (qR G (some (.int o)) σ) ([.ref (gA G 18), .ref (gA G i1)] : List Value).toArray s 0 0 (AG G)) (F0 m 2 ls []) := by
    intro fl2
    induction fl2 with
    | zero => intro v2 H locs hP hS ls hl hF; cases hF
    | succ fl2 ih2 =>
      intro v2 H locs hP hS ls hl hF
      rw [f_X0_firstForged_2_s] at hF
      refine lv_iload_n hx hb dX0_firstForged_2 rfl (lv_at hl 2 rfl) ?_
      refine lv_aload_n hx hb dX0_firstForged_3 rfl (lv_at hl 1 rfl) ?_
      refine va_getN (ci := 2) (C := RX5) (T := TX5) (N := 5) (v := .int (σ i1 1)) hx hb hts inX5 hown hK.1 hP i1 (at_2 hk1) rfl 1 (by decide) w1 (fun _ h9 => h9) rfl dX0_firstForged_4 ?_
      refine lv_icmp_ge (tgt := 39) hx hb dX0_firstForged_7 (by decide) (fun c1 => ?_) (fun c1 => ?_)
      · have hF := ite_t c1 hF
        refine lv_bipush (v := -4) hx hb dX0_firstForged_39 (by decide) ?_
        exact e_iP hx hb hr hP hS hlocks dX0_firstForged_41 hF
      · have hF := ite_f c1 hF
        refine lv_iload_n hx hb dX0_firstForged_10 rfl (lv_at hl 2 rfl) ?_
        refine lv_aload_n hx hb dX0_firstForged_11 rfl (lv_at hl 0 rfl) ?_
        refine va_get (ci := 0) (C := RX0) (T := TX0) (N := 5) (v := .int (σ 18 3)) hx hb hts inX0 hown hK.1 hP 18 (at_0 rfl) rfl 3 (by decide) w2 (fun _ h9 => h9) rfl dX0_firstForged_12 ?_
        refine lv_icmp_ge (tgt := 31) hx hb dX0_firstForged_15 (by decide) (fun c2 => ?_) (fun c2 => ?_)
        · have hF := ite_t c2 hF
          refine lv_iload_n hx hb dX0_firstForged_31 rfl (lv_at hl 2 rfl) ?_
          exact e_iP hx hb hr hP hS hlocks dX0_firstForged_32 hF
        · have hF := ite_f c2 hF
          refine lv_aload_n hx hb dX0_firstForged_18 rfl (lv_at hl 1 rfl) ?_
          refine lv_iload_n hx hb dX0_firstForged_19 rfl (lv_at hl 2 rfl) ?_
          obtain ⟨q3, h4, hF⟩ := ob_some hF
          refine k_VNv (As := [.int v2]) (rest := []) Z hK hP hS (t_X5_cell l G hG i1 v2 hk1 σ _ h4) ⟨va_cnB 1 hts gX0_firstForged_X5_cell_n107 rfl rfl rfl w4n w3 (by decide +kernel) ⟨Nat.le_of_ble_eq_true rfl, Nat.le_of_ble_eq_true rfl⟩, w5, w6⟩ (at_2 hk1) rfl rfl hl.1 rfl (Nat.le_of_ble_eq_true rfl) ⟨Nat.zero_le _, Nat.zero_le _⟩ dX0_firstForged_20 (fun H locs hP hS => ?_)
          refine lv_aload_n hx hb dX0_firstForged_23 rfl (lv_at hl 0 rfl) ?_
          refine lv_iload_n hx hb dX0_firstForged_24 rfl (lv_at hl 2 rfl) ?_
          obtain ⟨q5, h6, hF⟩ := ob_some hF
          refine k_Vv (As := [.int v2]) (rest := [.int q3]) Z hK hP hS (t_X0_numberIn l G hG v2 σ _ h6) (cwV 1 hts gX0_firstForged_X0_numberIn rfl rfl rfl (by decide +kernel) ⟨Nat.le_of_ble_eq_true rfl, Nat.le_of_ble_eq_true rfl⟩) (at_0 rfl) rfl rfl hl.1 rfl (Nat.le_of_ble_eq_true rfl) ⟨Nat.zero_le _, Nat.zero_le _⟩ dX0_firstForged_25 (fun H locs hP hS => ?_)
          refine lv_icmp_eq (tgt := 33) hx hb dX0_firstForged_28 (by decide) (fun c7 => ?_) (fun c7 => ?_)
          · have hF := ite_t c7 hF
            refine lv_iinc (v := (v2 + (1 : Int32))) (lv' := [(2, .int (v2 + (1 : Int32))), (0, .ref (gA G 18)), (1, .ref (gA G i1))]) hx hb dX0_firstForged_33 hl (k := 2) rfl rfl (by decide) rfl (fun ls hl => ?_)
            refine lv_goto (tgt := 2) hx hb dX0_firstForged_36 (by decide) ?_
            exact ih2 (v2 + (1 : Int32)) _ _ hP hS ls (lv_sub hl [1, 2, 0] rfl) hF
          · have hF := ite_f c7 hF
            refine lv_iload_n hx hb dX0_firstForged_31 rfl (lv_at hl 2 rfl) ?_
            exact e_iP hx hb hr hP hS hlocks dX0_firstForged_32 hF
  refine lv_istore_n (lv' := [(2, .int (0 : Int32)), (0, .ref (gA G 18)), (1, .ref (gA G i1))]) hx hb dX0_firstForged_1 rfl hl (by decide) rfl (fun ls hl => ?_)
  exact J2 fu (0 : Int32) _ _ hP hS ls (lv_sub hl [1, 2, 0] rfl) hF
def f_X6_digitsBehind (x0 : Int32) : Int32 := (if x0 = (100 : Int32) then ((8 : Int32)) else if x0 = (115 : Int32) then ((2 : Int32)) else if x0 = (116 : Int32) then ((3 : Int32)) else ((0 : Int32)))
set_option maxRecDepth 100000 in
set_option maxHeartbeats 4000000 in
theorem t_X6_digitsBehind (l : Launch) (G : GT) (hG : Dw G) (x0 : Int32) (σ : St) : Ct l G yX6_digitsBehind wsX6_digitsBehind 0 0 [.int x0] σ (some (.int (f_X6_digitsBehind x0))) σ := by
  obtain ⟨o, hF⟩ : ∃ o, f_X6_digitsBehind x0 = o := ⟨_, rfl⟩
  rw [hF]
  refine Met.ofW (cc := cX6_digitsBehind) (maxL := 1) (ret := (some .int)) (by decide) rfl ?_
  intro p e s m args below meth c s₁ B hml hv
  obtain ⟨rfl, hP, hK⟩ := hv
  have hx := B.exec
  have hb := B.bytes
  have hr := B.returns
  have hts := atoms_spec (ws := wsX6_digitsBehind) B.pre
  have hown : s.vm.findClass RX6 = some m.cls := findClass_of_methodNamed B.named
  have hlocks := B.notSynchronized
  have Z : CallFix p m c cX6_digitsBehind 1 s _ wsX6_digitsBehind RX6 := ⟨hx, hb, hml, hown, hts⟩
  have hS : va_S (AG G) s.heap s.heap [] := va_S.rf
  have hl := lv_entry ([.int x0]) (n := 1) (Nat.le_of_ble_eq_true rfl)
  rw [lg_entry_eq]
  generalize (lg_sl ([.int x0]) ++ List.replicate (1 - (lg_sl ([.int x0])).length) Slot.unset).toArray = ls at hl ⊢
  have hl : lv_has ls 1 [(0, .int x0)] := hl
  unfold f_X6_digitsBehind at hF
  refine lv_iload_n hx hb dX6_digitsBehind_0 rfl (lv_at hl 0 rfl) ?_
  by_cases c1 : x0 = (100 : Int32)
  · have hF := ite_t c1 hF
    refine lv_lookup (off := 35) (tgt := 36) hx hb dX6_digitsBehind_1 (by decide) (by rw [c1]; rfl) (by decide) ?_
    refine lv_bipush (v := 8) hx hb dX6_digitsBehind_36 (by decide) ?_
    exact e_iT hx hb hr hP hS hlocks dX6_digitsBehind_38 hF
  · have hF := ite_f c1 hF
    by_cases c2 : x0 = (115 : Int32)
    · have hF := ite_t c2 hF
      refine lv_lookup (off := 40) (tgt := 41) hx hb dX6_digitsBehind_1 (by decide) (by rw [c2]; rfl) (by decide) ?_
      refine lv_iconst (v := 2) hx hb dX6_digitsBehind_41 (by decide) ?_
      exact e_iT hx hb hr hP hS hlocks dX6_digitsBehind_42 hF
    · have hF := ite_f c2 hF
      by_cases c3 : x0 = (116 : Int32)
      · have hF := ite_t c3 hF
        refine lv_lookup (off := 38) (tgt := 39) hx hb dX6_digitsBehind_1 (by decide) (by rw [c3]; rfl) (by decide) ?_
        refine lv_iconst (v := 3) hx hb dX6_digitsBehind_39 (by decide) ?_
        exact e_iT hx hb hr hP hS hlocks dX6_digitsBehind_40 hF
      · have hF := ite_f c3 hF
        refine lv_lookup (off := 42) (tgt := 43) hx hb dX6_digitsBehind_1 (by decide) (by show Op.lookupswitch.offset [(100, 35), (115, 40), (116, 38)] _ _ = _; rw [lv_osw c1 (by decide : ((100 : Int32)).toInt = 100), lv_osw c2 (by decide : ((115 : Int32)).toInt = 115), lv_osw c3 (by decide : ((116 : Int32)).toInt = 116)]; rfl) (by decide) ?_
        refine lv_iconst (v := 0) hx hb dX6_digitsBehind_43 (by decide) ?_
        exact e_iT hx hb hr hP hS hlocks dX6_digitsBehind_44 hF
def f_X6_firstBadByte_96 (i0 : Nat) (σ : St) : Option Int32 := (some (σ i0 1))
theorem f_X6_firstBadByte_96_e {i0 : Nat} {σ : St} : f_X6_firstBadByte_96 i0 σ  = (some (σ i0 1)) := rfl
def f_X6_firstBadByte_79 (i0 : Nat) (σ : St) (rec6 : Int32 → Int32 → Int32 → Option Int32) (v1 : Int32) (v2 : Int32) (v3 : Int32) : Option Int32 := (rec6 v1 v2 (v3 + (1 : Int32)))
theorem f_X6_firstBadByte_79_e {i0 : Nat} {σ : St} {rec6 : Int32 → Int32 → Int32 → Option Int32} {v1 : Int32} {v2 : Int32} {v3 : Int32} : f_X6_firstBadByte_79 i0 σ rec6 v1 v2 v3 = (rec6 v1 v2 (v3 + (1 : Int32))) := rfl
def f_X6_firstBadByte_6 (i0 : Nat) (σ : St) : Nat → (Int32 → Int32 → Int32 → Option Int32)
  | 0 => fun _ _ _ => none
  | fl + 1 => fun v1 v2 v3 => (if (σ i0 1) ≤ v3 then (if v1 = 0 then (if (σ i0 1) = 0 then f_X6_firstBadByte_96 i0 σ else (some (-1 : Int32))) else f_X6_firstBadByte_96 i0 σ) else (ob (f_X5_cell i0 v3 σ) (fun q4 => if v1 = 0 then (if (f_X6_digitsBehind q4) = 0 then (some v3) else (f_X6_firstBadByte_79 i0 σ (f_X6_firstBadByte_6 i0 σ fl) (1 : Int32) (f_X6_digitsBehind q4) v3)) else (if v2 ≤ 0 then (if q4 = (59 : Int32) then (f_X6_firstBadByte_79 i0 σ (f_X6_firstBadByte_6 i0 σ fl) (0 : Int32) v2 v3) else (some v3)) else (if q4 < (48 : Int32) then (some v3) else (if q4 ≤ (57 : Int32) then (f_X6_firstBadByte_79 i0 σ (f_X6_firstBadByte_6 i0 σ fl) v1 (v2 + (-1 : Int32)) v3) else (some v3)))))))
theorem f_X6_firstBadByte_6_s {i0 : Nat} {σ : St} (fl : Nat) {v1 : Int32} {v2 : Int32} {v3 : Int32} : f_X6_firstBadByte_6 i0 σ (fl + 1) v1 v2 v3 = (if (σ i0 1) ≤ v3 then (if v1 = 0 then (if (σ i0 1) = 0 then f_X6_firstBadByte_96 i0 σ else (some (-1 : Int32))) else f_X6_firstBadByte_96 i0 σ) else (ob (f_X5_cell i0 v3 σ) (fun q4 => if v1 = 0 then (if (f_X6_digitsBehind q4) = 0 then (some v3) else (f_X6_firstBadByte_79 i0 σ (f_X6_firstBadByte_6 i0 σ fl) (1 : Int32) (f_X6_digitsBehind q4) v3)) else (if v2 ≤ 0 then (if q4 = (59 : Int32) then (f_X6_firstBadByte_79 i0 σ (f_X6_firstBadByte_6 i0 σ fl) (0 : Int32) v2 v3) else (some v3)) else (if q4 < (48 : Int32) then (some v3) else (if q4 ≤ (57 : Int32) then (f_X6_firstBadByte_79 i0 σ (f_X6_firstBadByte_6 i0 σ fl) v1 (v2 + (-1 : Int32)) v3) else (some v3))))))) := rfl
def f_X6_firstBadByte (i0 : Nat) (σ : St) : Option Int32 := (f_X6_firstBadByte_6 i0 σ fu (0 : Int32) (0 : Int32) (0 : Int32))
set_option maxRecDepth 100000 in
set_option maxHeartbeats 4000000 in
theorem t_X6_firstBadByte (l : Launch) (G : GT) (hG : Dw G) (i0 : Nat) (hk0 : kd i0 = 2) (σ : St) (o : Int32) (hF : f_X6_firstBadByte i0 σ = some o) : Ct l G yX6_firstBadByte wsX6_firstBadByte 1 21 [.ref (gA G i0)] σ (some (.int o)) σ := by
  refine Met.ofW (cc := cX6_firstBadByte) (maxL := 5) (ret := (some .int)) (by decide) rfl ?_
  intro p e s m args below meth c s₁ B hml hv
  obtain ⟨rfl, hP, hK⟩ := hv
  have hx := B.exec
  have hb := B.bytes
  have hr := B.returns
  have hts := atoms_spec (ws := wsX6_firstBadByte) B.pre
  have hown : s.vm.findClass RX6 = some m.cls := findClass_of_methodNamed B.named
  have hlocks := B.notSynchronized
  have Z : CallFix p m c cX6_firstBadByte 5 s _ wsX6_firstBadByte RX6 := ⟨hx, hb, hml, hown, hts⟩
  have hS : va_S (AG G) s.heap s.heap [] := va_S.rf
  have inX5 : ∀ w ∈ u_ws RX5 TX5 5, w ∈ wsX6_firstBadByte := by decide +kernel
  have w1n : va_Nw (.fieldLinkNest "AlmanacOfTheYearGone$Text" 9 "AlmanacOfTheYearGone$Shelf" "length" "I" "AlmanacOfTheYearGone") s := hK.2 _ (List.mem_of_getElem? (i := 2) rfl)
  have w1 := va_Nw.use (A := [.ref (gA G i0)].toArray) rfl w1n
  have w2 := hts (.initialized RX5) (by decide +kernel)
  have w3n : va_Nw (.methodLinkNest "AlmanacOfTheYearGone$Text" 15 ⟨"AlmanacOfTheYearGone$Shelf", "cell", "(I)I"⟩ "AlmanacOfTheYearGone") s := hK.2 _ (List.mem_of_getElem? (i := 41) rfl)
  have w3 := va_Nw.use (A := [.ref (gA G i0)].toArray) rfl w3n
  have w4 := hts (.instanceMethod yX5_cell) (by decide +kernel)
  have w5 := hts (.selects RX5 yX5_cell yX5_cell) (by decide +kernel)
  have hl := lv_entry ([.ref (gA G i0)]) (n := 5) (Nat.le_of_ble_eq_true rfl)
  rw [lg_entry_eq]
  generalize (lg_sl ([.ref (gA G i0)]) ++ List.replicate (5 - (lg_sl ([.ref (gA G i0)])).length) Slot.unset).toArray = ls at hl ⊢
  have hl : lv_has ls 5 [(0, .ref (gA G i0))] := hl
  unfold f_X6_firstBadByte at hF
  refine lv_iconst (v := 0) hx hb dX6_firstBadByte_0 (by decide) ?_
  refine lv_istore_n (lv' := [(1, .int (0 : Int32)), (0, .ref (gA G i0))]) hx hb dX6_firstBadByte_1 rfl hl (by decide) rfl (fun ls hl => ?_)
  refine lv_iconst (v := 0) hx hb dX6_firstBadByte_2 (by decide) ?_
  refine lv_istore_n (lv' := [(2, .int (0 : Int32)), (1, .int (0 : Int32)), (0, .ref (gA G i0))]) hx hb dX6_firstBadByte_3 rfl hl (by decide) rfl (fun ls hl => ?_)
  refine lv_iconst (v := 0) hx hb dX6_firstBadByte_4 (by decide) ?_
  have J6 : ∀ (fl : Nat) (v1 : Int32) (v2 : Int32) (v3 : Int32) (H : Heap) (locs : List Loc) (hP : Pw G σ H) (hS : va_S (AG G) s.heap H locs) (ls : Array Slot) (hl : lv_has ls 5 [(0, .ref (gA G i0)), (1, .int v1), (2, .int v2), (3, .int v3)]) (hF : f_X6_firstBadByte_6 i0 σ fl v1 v2 v3 = some o), W p l e (headSpec wsX6_firstBadByte ({ frames := 1, cells := 0, slots := 0, locals := 21 })).room s m ([.ref (gA G i0)] : List Value).toArray below meth c H locs 0 0 (MQ below (qR G (some (.int o)) σ) ([.ref (gA G i0)] : List Value).toArray s 0 0 (AG G)) (F0 m 6 ls []) := by
    intro fl6
    induction fl6 with
    | zero => intro v1 v2 v3 H locs hP hS ls hl hF; cases hF
    | succ fl6 ih6 =>
      intro v1 v2 v3 H locs hP hS ls hl hF
      rw [f_X6_firstBadByte_6_s] at hF
      refine lv_iload_n hx hb dX6_firstBadByte_6 rfl (lv_at hl 3 rfl) ?_
      refine lv_aload_n hx hb dX6_firstBadByte_7 rfl (lv_at hl 0 rfl) ?_
      refine va_getN (ci := 2) (C := RX5) (T := TX5) (N := 5) (v := .int (σ i0 1)) hx hb hts inX5 hown hK.1 hP i0 (at_2 hk0) rfl 1 (by decide) w1 (fun _ h9 => h9) rfl dX6_firstBadByte_8 ?_
      refine lv_icmp_ge (tgt := 85) hx hb dX6_firstBadByte_11 (by decide) (fun c1 => ?_) (fun c1 => ?_)
      · have hF := ite_t c1 hF
        refine lv_iload_n hx hb dX6_firstBadByte_85 rfl (lv_at hl 1 rfl) ?_
        have J96 : ∀ (H : Heap) (locs : List Loc) (hP : Pw G σ H) (hS : va_S (AG G) s.heap H locs) (ls : Array Slot) (hl : lv_has ls 5 [(0, .ref (gA G i0))]) (hF : f_X6_firstBadByte_96 i0 σ  = some o), W p l e (headSpec wsX6_firstBadByte ({ frames := 1, cells := 0, slots := 0, locals := 21 })).room s m ([.ref (gA G i0)] : List Value).toArray below meth c H locs 0 0 (MQ below (qR G (some (.int o)) σ) ([.ref (gA G i0)] : List Value).toArray s 0 0 (AG G)) (F0 m 96 ls []) := by
          intro  H locs hP hS ls hl hF
          rw [f_X6_firstBadByte_96_e] at hF
          refine lv_aload_n hx hb dX6_firstBadByte_96 rfl (lv_at hl 0 rfl) ?_
          refine va_getN (ci := 2) (C := RX5) (T := TX5) (N := 5) (v := .int (σ i0 1)) hx hb hts inX5 hown hK.1 hP i0 (at_2 hk0) rfl 1 (by decide) w1 (fun _ h9 => h9) rfl dX6_firstBadByte_97 ?_
          refine lv_goto (tgt := 104) hx hb dX6_firstBadByte_100 (by decide) ?_
          exact e_iP hx hb hr hP hS hlocks dX6_firstBadByte_104 hF
        refine lv_if_ne (tgt := 96) hx hb dX6_firstBadByte_86 (by decide) (fun c2 => ?_) (fun c2 => ?_)
        · have hF := ite_f c2 hF
          exact J96  _ _ hP hS ls (lv_sub hl [0] rfl) hF
        · have hF := ite_t c2 hF
          refine lv_aload_n hx hb dX6_firstBadByte_89 rfl (lv_at hl 0 rfl) ?_
          refine va_getN (ci := 2) (C := RX5) (T := TX5) (N := 5) (v := .int (σ i0 1)) hx hb hts inX5 hown hK.1 hP i0 (at_2 hk0) rfl 1 (by decide) w1 (fun _ h9 => h9) rfl dX6_firstBadByte_90 ?_
          refine lv_if_ne (tgt := 103) hx hb dX6_firstBadByte_93 (by decide) (fun c3 => ?_) (fun c3 => ?_)
          · have hF := ite_f c3 hF
            refine lv_iconst (v := -1) hx hb dX6_firstBadByte_103 (by decide) ?_
            exact e_iP hx hb hr hP hS hlocks dX6_firstBadByte_104 hF
          · have hF := ite_t c3 hF
            exact J96  _ _ hP hS ls (lv_sub hl [0] rfl) hF
      · have hF := ite_f c1 hF
        refine lv_aload_n hx hb dX6_firstBadByte_14 rfl (lv_at hl 0 rfl) ?_
        refine lv_iload_n hx hb dX6_firstBadByte_15 rfl (lv_at hl 3 rfl) ?_
        obtain ⟨q4, h5, hF⟩ := ob_some hF
        refine k_VNv (As := [.int v3]) (rest := []) Z hK hP hS (t_X5_cell l G hG i0 v3 hk0 σ _ h5) ⟨va_cnB 1 hts gX6_firstBadByte_X5_cell_n15 rfl rfl rfl w3n w2 (by decide +kernel) ⟨Nat.le_of_ble_eq_true rfl, Nat.le_of_ble_eq_true rfl⟩, w4, w5⟩ (at_2 hk0) rfl rfl hl.1 rfl (Nat.le_of_ble_eq_true rfl) ⟨Nat.zero_le _, Nat.zero_le _⟩ dX6_firstBadByte_16 (fun H locs hP hS => ?_)
        refine lv_istore (lv' := [(4, .int q4), (0, .ref (gA G i0)), (1, .int v1), (2, .int v2), (3, .int v3)]) hx hb dX6_firstBadByte_19 hl (by decide) rfl (fun ls hl => ?_)
        refine lv_iload_n hx hb dX6_firstBadByte_21 rfl (lv_at hl 2 rfl) ?_
        have J79 : ∀ (v1 : Int32) (v2 : Int32) (v3 : Int32) (H : Heap) (locs : List Loc) (hP : Pw G σ H) (hS : va_S (AG G) s.heap H locs) (ls : Array Slot) (hl : lv_has ls 5 [(0, .ref (gA G i0)), (1, .int v1), (2, .int v2), (3, .int v3)]) (hF : f_X6_firstBadByte_79 i0 σ (f_X6_firstBadByte_6 i0 σ fl6) v1 v2 v3 = some o), W p l e (headSpec wsX6_firstBadByte ({ frames := 1, cells := 0, slots := 0, locals := 21 })).room s m ([.ref (gA G i0)] : List Value).toArray below meth c H locs 0 0 (MQ below (qR G (some (.int o)) σ) ([.ref (gA G i0)] : List Value).toArray s 0 0 (AG G)) (F0 m 79 ls []) := by
          intro v1 v2 v3 H locs hP hS ls hl hF
          rw [f_X6_firstBadByte_79_e] at hF
          refine lv_iinc (v := (v3 + (1 : Int32))) (lv' := [(3, .int (v3 + (1 : Int32))), (0, .ref (gA G i0)), (1, .int v1), (2, .int v2)]) hx hb dX6_firstBadByte_79 hl (k := 3) rfl rfl (by decide) rfl (fun ls hl => ?_)
          refine lv_goto (tgt := 6) hx hb dX6_firstBadByte_82 (by decide) ?_
          exact ih6 v1 v2 (v3 + (1 : Int32)) _ _ hP hS ls (lv_sub hl [1, 2, 3, 0] rfl) hF
        refine lv_if_ne (tgt := 42) hx hb dX6_firstBadByte_22 (by decide) (fun c6 => ?_) (fun c6 => ?_)
        · have hF := ite_f c6 hF
          refine lv_iload_n hx hb dX6_firstBadByte_42 rfl (lv_at hl 3 rfl) ?_
          refine lv_if_le (tgt := 68) hx hb dX6_firstBadByte_43 (by decide) (fun c7 => ?_) (fun c7 => ?_)
          · have hF := ite_t c7 hF
            refine lv_iload hx hb dX6_firstBadByte_68 (lv_at hl 0 rfl) ?_
            refine lv_bipush (v := 59) hx hb dX6_firstBadByte_70 (by decide) ?_
            refine lv_icmp_eq (tgt := 77) hx hb dX6_firstBadByte_72 (by decide) (fun c8 => ?_) (fun c8 => ?_)
            · have hF := ite_t c8 hF
              refine lv_iconst (v := 0) hx hb dX6_firstBadByte_77 (by decide) ?_
              refine lv_istore_n (lv' := [(1, .int (0 : Int32)), (4, .int q4), (0, .ref (gA G i0)), (2, .int v2), (3, .int v3)]) hx hb dX6_firstBadByte_78 rfl hl (by decide) rfl (fun ls hl => ?_)
              exact J79 (0 : Int32) v2 v3 _ _ hP hS ls (lv_sub hl [2, 0, 3, 4] rfl) hF
            · have hF := ite_f c8 hF
              refine lv_iload_n hx hb dX6_firstBadByte_75 rfl (lv_at hl 4 rfl) ?_
              exact e_iP hx hb hr hP hS hlocks dX6_firstBadByte_76 hF
          · have hF := ite_f c7 hF
            refine lv_iload hx hb dX6_firstBadByte_46 (lv_at hl 0 rfl) ?_
            refine lv_bipush (v := 48) hx hb dX6_firstBadByte_48 (by decide) ?_
            refine lv_icmp_lt (tgt := 60) hx hb dX6_firstBadByte_50 (by decide) (fun c9 => ?_) (fun c9 => ?_)
            · have hF := ite_t c9 hF
              refine lv_iload_n hx hb dX6_firstBadByte_60 rfl (lv_at hl 4 rfl) ?_
              exact e_iP hx hb hr hP hS hlocks dX6_firstBadByte_61 hF
            · have hF := ite_f c9 hF
              refine lv_iload hx hb dX6_firstBadByte_53 (lv_at hl 0 rfl) ?_
              refine lv_bipush (v := 57) hx hb dX6_firstBadByte_55 (by decide) ?_
              refine lv_icmp_le (tgt := 62) hx hb dX6_firstBadByte_57 (by decide) (fun c10 => ?_) (fun c10 => ?_)
              · have hF := ite_t c10 hF
                refine lv_iinc (v := (v2 + (-1 : Int32))) (lv' := [(2, .int (v2 + (-1 : Int32))), (4, .int q4), (0, .ref (gA G i0)), (1, .int v1), (3, .int v3)]) hx hb dX6_firstBadByte_62 hl (k := 3) rfl rfl (by decide) rfl (fun ls hl => ?_)
                refine lv_goto (tgt := 79) hx hb dX6_firstBadByte_65 (by decide) ?_
                exact J79 v1 (v2 + (-1 : Int32)) v3 _ _ hP hS ls (lv_sub hl [2, 3, 0, 4] rfl) hF
              · have hF := ite_f c10 hF
                refine lv_iload_n hx hb dX6_firstBadByte_60 rfl (lv_at hl 4 rfl) ?_
                exact e_iP hx hb hr hP hS hlocks dX6_firstBadByte_61 hF
        · have hF := ite_t c6 hF
          refine lv_iload hx hb dX6_firstBadByte_25 (lv_at hl 0 rfl) ?_
          refine k_Sv (As := [.int q4]) (rest := []) Z hK hP hS (t_X6_digitsBehind l G hG q4 σ) (va_cwS 1 hts gX6_firstBadByte_X6_digitsBehind rfl rfl rfl (by decide +kernel) ⟨Nat.le_of_ble_eq_true rfl, Nat.le_of_ble_eq_true rfl⟩) rfl hl.1 rfl (Nat.le_of_ble_eq_true rfl) ⟨Nat.zero_le _, Nat.zero_le _⟩ dX6_firstBadByte_27 (fun H locs hP hS => ?_)
          refine lv_istore_n (lv' := [(2, .int (f_X6_digitsBehind q4)), (4, .int q4), (0, .ref (gA G i0)), (1, .int v1), (3, .int v3)]) hx hb dX6_firstBadByte_30 rfl hl (by decide) rfl (fun ls hl => ?_)
          refine lv_iload_n hx hb dX6_firstBadByte_31 rfl (lv_at hl 0 rfl) ?_
          refine lv_if_ne (tgt := 37) hx hb dX6_firstBadByte_32 (by decide) (fun c11 => ?_) (fun c11 => ?_)
          · have hF := ite_f c11 hF
            refine lv_iconst (v := 1) hx hb dX6_firstBadByte_37 (by decide) ?_
            refine lv_istore_n (lv' := [(1, .int (1 : Int32)), (2, .int (f_X6_digitsBehind q4)), (4, .int q4), (0, .ref (gA G i0)), (3, .int v3)]) hx hb dX6_firstBadByte_38 rfl hl (by decide) rfl (fun ls hl => ?_)
            refine lv_goto (tgt := 79) hx hb dX6_firstBadByte_39 (by decide) ?_
            exact J79 (1 : Int32) (f_X6_digitsBehind q4) v3 _ _ hP hS ls (lv_sub hl [3, 0, 1, 4] rfl) hF
          · have hF := ite_t c11 hF
            refine lv_iload_n hx hb dX6_firstBadByte_35 rfl (lv_at hl 4 rfl) ?_
            exact e_iP hx hb hr hP hS hlocks dX6_firstBadByte_36 hF
  refine lv_istore_n (lv' := [(3, .int (0 : Int32)), (2, .int (0 : Int32)), (1, .int (0 : Int32)), (0, .ref (gA G i0))]) hx hb dX6_firstBadByte_5 rfl hl (by decide) rfl (fun ls hl => ?_)
  exact J6 fu (0 : Int32) (0 : Int32) (0 : Int32) _ _ hP hS ls (lv_sub hl [3, 2, 1, 0] rfl) hF
def f_X6_statements_28 (i0 : Nat) (σ : St) (rec4 : Int32 → Int32 → Option Int32) (v2 : Int32) (z0 : Int32) (z1 : Int32) : Option Int32 := (rec4 (z0 + z1) (v2 + (1 : Int32)))
theorem f_X6_statements_28_e {i0 : Nat} {σ : St} {rec4 : Int32 → Int32 → Option Int32} {v2 : Int32} {z0 : Int32} {z1 : Int32} : f_X6_statements_28 i0 σ rec4 v2 z0 z1 = (rec4 (z0 + z1) (v2 + (1 : Int32))) := rfl
def f_X6_statements_4 (i0 : Nat) (σ : St) : Nat → (Int32 → Int32 → Option Int32)
  | 0 => fun _ _ => none
  | fl + 1 => fun v1 v2 => (if (σ i0 1) ≤ v2 then (some v1) else (ob (f_X5_cell i0 v2 σ) (fun q2 => if q2 = (59 : Int32) then (f_X6_statements_28 i0 σ (f_X6_statements_4 i0 σ fl) v2 v1 (1 : Int32)) else (f_X6_statements_28 i0 σ (f_X6_statements_4 i0 σ fl) v2 v1 (0 : Int32)))))
theorem f_X6_statements_4_s {i0 : Nat} {σ : St} (fl : Nat) {v1 : Int32} {v2 : Int32} : f_X6_statements_4 i0 σ (fl + 1) v1 v2 = (if (σ i0 1) ≤ v2 then (some v1) else (ob (f_X5_cell i0 v2 σ) (fun q2 => if q2 = (59 : Int32) then (f_X6_statements_28 i0 σ (f_X6_statements_4 i0 σ fl) v2 v1 (1 : Int32)) else (f_X6_statements_28 i0 σ (f_X6_statements_4 i0 σ fl) v2 v1 (0 : Int32))))) := rfl
def f_X6_statements (i0 : Nat) (σ : St) : Option Int32 := (f_X6_statements_4 i0 σ fu (0 : Int32) (0 : Int32))
set_option maxRecDepth 100000 in
set_option maxHeartbeats 4000000 in
theorem t_X6_statements (l : Launch) (G : GT) (hG : Dw G) (i0 : Nat) (hk0 : kd i0 = 2) (σ : St) (o : Int32) (hF : f_X6_statements i0 σ = some o) : Ct l G yX6_statements wsX6_statements 1 21 [.ref (gA G i0)] σ (some (.int o)) σ := by
  refine Met.ofW (cc := cX6_statements) (maxL := 3) (ret := (some .int)) (by decide) rfl ?_
  intro p e s m args below meth c s₁ B hml hv
  obtain ⟨rfl, hP, hK⟩ := hv
  have hx := B.exec
  have hb := B.bytes
  have hr := B.returns
  have hts := atoms_spec (ws := wsX6_statements) B.pre
  have hown : s.vm.findClass RX6 = some m.cls := findClass_of_methodNamed B.named
  have hlocks := B.notSynchronized
  have Z : CallFix p m c cX6_statements 3 s _ wsX6_statements RX6 := ⟨hx, hb, hml, hown, hts⟩
  have hS : va_S (AG G) s.heap s.heap [] := va_S.rf
  have inX5 : ∀ w ∈ u_ws RX5 TX5 5, w ∈ wsX6_statements := by decide +kernel
  have w1n : va_Nw (.fieldLinkNest "AlmanacOfTheYearGone$Text" 9 "AlmanacOfTheYearGone$Shelf" "length" "I" "AlmanacOfTheYearGone") s := hK.2 _ (List.mem_of_getElem? (i := 2) rfl)
  have w1 := va_Nw.use (A := [.ref (gA G i0)].toArray) rfl w1n
  have w2 := hts (.initialized RX5) (by decide +kernel)
  have w3n : va_Nw (.methodLinkNest "AlmanacOfTheYearGone$Text" 15 ⟨"AlmanacOfTheYearGone$Shelf", "cell", "(I)I"⟩ "AlmanacOfTheYearGone") s := hK.2 _ (List.mem_of_getElem? (i := 41) rfl)
  have w3 := va_Nw.use (A := [.ref (gA G i0)].toArray) rfl w3n
  have w4 := hts (.instanceMethod yX5_cell) (by decide +kernel)
  have w5 := hts (.selects RX5 yX5_cell yX5_cell) (by decide +kernel)
  have hl := lv_entry ([.ref (gA G i0)]) (n := 3) (Nat.le_of_ble_eq_true rfl)
  rw [lg_entry_eq]
  generalize (lg_sl ([.ref (gA G i0)]) ++ List.replicate (3 - (lg_sl ([.ref (gA G i0)])).length) Slot.unset).toArray = ls at hl ⊢
  have hl : lv_has ls 3 [(0, .ref (gA G i0))] := hl
  unfold f_X6_statements at hF
  refine lv_iconst (v := 0) hx hb dX6_statements_0 (by decide) ?_
  refine lv_istore_n (lv' := [(1, .int (0 : Int32)), (0, .ref (gA G i0))]) hx hb dX6_statements_1 rfl hl (by decide) rfl (fun ls hl => ?_)
  refine lv_iconst (v := 0) hx hb dX6_statements_2 (by decide) ?_
  have J4 : ∀ (fl : Nat) (v1 : Int32) (v2 : Int32) (H : Heap) (locs : List Loc) (hP : Pw G σ H) (hS : va_S (AG G) s.heap H locs) (ls : Array Slot) (hl : lv_has ls 3 [(0, .ref (gA G i0)), (1, .int v1), (2, .int v2)]) (hF : f_X6_statements_4 i0 σ fl v1 v2 = some o), W p l e (headSpec wsX6_statements ({ frames := 1, cells := 0, slots := 0, locals := 21 })).room s m ([.ref (gA G i0)] : List Value).toArray below meth c H locs 0 0 (MQ below (qR G (some (.int o)) σ) ([.ref (gA G i0)] : List Value).toArray s 0 0 (AG G)) (F0 m 4 ls []) := by
    intro fl4
    induction fl4 with
    | zero => intro v1 v2 H locs hP hS ls hl hF; cases hF
    | succ fl4 ih4 =>
      intro v1 v2 H locs hP hS ls hl hF
      rw [f_X6_statements_4_s] at hF
      refine lv_iload_n hx hb dX6_statements_4 rfl (lv_at hl 2 rfl) ?_
      refine lv_aload_n hx hb dX6_statements_5 rfl (lv_at hl 0 rfl) ?_
      refine va_getN (ci := 2) (C := RX5) (T := TX5) (N := 5) (v := .int (σ i0 1)) hx hb hts inX5 hown hK.1 hP i0 (at_2 hk0) rfl 1 (by decide) w1 (fun _ h9 => h9) rfl dX6_statements_6 ?_
      refine lv_icmp_ge (tgt := 36) hx hb dX6_statements_9 (by decide) (fun c1 => ?_) (fun c1 => ?_)
      · have hF := ite_t c1 hF
        refine lv_iload_n hx hb dX6_statements_36 rfl (lv_at hl 1 rfl) ?_
        exact e_iP hx hb hr hP hS hlocks dX6_statements_37 hF
      · have hF := ite_f c1 hF
        refine lv_iload_n hx hb dX6_statements_12 rfl (lv_at hl 1 rfl) ?_
        refine lv_aload_n hx hb dX6_statements_13 rfl (lv_at hl 0 rfl) ?_
        refine lv_iload_n hx hb dX6_statements_14 rfl (lv_at hl 2 rfl) ?_
        obtain ⟨q2, h3, hF⟩ := ob_some hF
        refine k_VNv (As := [.int v2]) (rest := [.int v1]) Z hK hP hS (t_X5_cell l G hG i0 v2 hk0 σ _ h3) ⟨va_cnB 1 hts gX6_statements_X5_cell_n15 rfl rfl rfl w3n w2 (by decide +kernel) ⟨Nat.le_of_ble_eq_true rfl, Nat.le_of_ble_eq_true rfl⟩, w4, w5⟩ (at_2 hk0) rfl rfl hl.1 rfl (Nat.le_of_ble_eq_true rfl) ⟨Nat.zero_le _, Nat.zero_le _⟩ dX6_statements_15 (fun H locs hP hS => ?_)
        refine lv_bipush (v := 59) hx hb dX6_statements_18 (by decide) ?_
        have J28 : ∀ (v2 : Int32) (z0 : Int32) (z1 : Int32) (H : Heap) (locs : List Loc) (hP : Pw G σ H) (hS : va_S (AG G) s.heap H locs) (ls : Array Slot) (hl : lv_has ls 3 [(0, .ref (gA G i0)), (2, .int v2)]) (hF : f_X6_statements_28 i0 σ (f_X6_statements_4 i0 σ fl4) v2 z0 z1 = some o), W p l e (headSpec wsX6_statements ({ frames := 1, cells := 0, slots := 0, locals := 21 })).room s m ([.ref (gA G i0)] : List Value).toArray below meth c H locs 0 0 (MQ below (qR G (some (.int o)) σ) ([.ref (gA G i0)] : List Value).toArray s 0 0 (AG G)) (F0 m 28 ls [.int z1, .int z0]) := by
          intro v2 z0 z1 H locs hP hS ls hl hF
          rw [f_X6_statements_28_e] at hF
          refine lv_iadd hx hb dX6_statements_28 ?_
          refine lv_istore_n (lv' := [(1, .int (z0 + z1)), (0, .ref (gA G i0)), (2, .int v2)]) hx hb dX6_statements_29 rfl hl (by decide) rfl (fun ls hl => ?_)
          refine lv_iinc (v := (v2 + (1 : Int32))) (lv' := [(2, .int (v2 + (1 : Int32))), (1, .int (z0 + z1)), (0, .ref (gA G i0))]) hx hb dX6_statements_30 hl (k := 2) rfl rfl (by decide) rfl (fun ls hl => ?_)
          refine lv_goto (tgt := 4) hx hb dX6_statements_33 (by decide) ?_
          exact ih4 (z0 + z1) (v2 + (1 : Int32)) _ _ hP hS ls (lv_sub hl [2, 1, 0] rfl) hF
        refine lv_icmp_ne (tgt := 27) hx hb dX6_statements_20 (by decide) (fun c4 => ?_) (fun c4 => ?_)
        · have hF := ite_f c4 hF
          refine lv_iconst (v := 0) hx hb dX6_statements_27 (by decide) ?_
          exact J28 v2 v1 (0 : Int32) _ _ hP hS ls (lv_sub hl [0, 2] rfl) hF
        · have hF := ite_t c4 hF
          refine lv_iconst (v := 1) hx hb dX6_statements_23 (by decide) ?_
          refine lv_goto (tgt := 28) hx hb dX6_statements_24 (by decide) ?_
          exact J28 v2 v1 (1 : Int32) _ _ hP hS ls (lv_sub hl [0, 2] rfl) hF
  refine lv_istore_n (lv' := [(2, .int (0 : Int32)), (1, .int (0 : Int32)), (0, .ref (gA G i0))]) hx hb dX6_statements_3 rfl hl (by decide) rfl (fun ls hl => ?_)
  exact J4 fu (0 : Int32) (0 : Int32) _ _ hP hS ls (lv_sub hl [2, 1, 0] rfl) hF
def f_X6_isDeedTaken (i0 : Nat) (x1 : Int32) (i2 : Nat) (σ : St) : Option (Bool × St) := (ob (f_X5_number i0 (x1 + (1 : Int32)) (1 : Int32) σ) (fun q1 => ob (f_X5_number i0 (x1 + (2 : Int32)) (1 : Int32) σ) (fun q3 => ob (f_X5_number i0 (x1 + (3 : Int32)) (3 : Int32) σ) (fun q5 => ob (f_X5_number i0 (x1 + (6 : Int32)) (1 : Int32) σ) (fun q7 => ob (f_X5_number i0 (x1 + (7 : Int32)) (2 : Int32) σ) (fun q9 => if (8 : Int32) ≤ q1 then (some (false, σ)) else (if (364 : Int32) < q5 then (some (false, σ)) else (if (5 : Int32) ≤ q7 then (some (false, σ)) else (if q9 ≤ (31 : Int32) then (if ((q9 >>> (q7 &&& 31)) &&& (1 : Int32)) = 0 then (ob (f_X7_add i2 q1 q3 q5 q7 q9 σ) (fun q16 => if q16.1 = true then (some (true, q16.2)) else (some (false, q16.2)))) else (some (false, σ))) else (some (false, σ)))))))))))
set_option maxRecDepth 100000 in
set_option maxHeartbeats 4000000 in
theorem t_X6_isDeedTaken (l : Launch) (G : GT) (hG : Dw G) (i0 : Nat) (x1 : Int32) (i2 : Nat) (hk0 : kd i0 = 2) (hk2 : kd i2 = 3) (σ : St) (o : Bool × St) (hF : f_X6_isDeedTaken i0 x1 i2 σ = some o) : Ct l G yX6_isDeedTaken wsX6_isDeedTaken 3 74 [.ref (gA G i0), .int x1, .ref (gA G i2)] σ (some (.int (b2i o.1))) o.2 := by
  refine Met.ofW (cc := cX6_isDeedTaken) (maxL := 8) (ret := (some .boolean)) (by decide) rfl ?_
  intro p e s m args below meth c s₁ B hml hv
  obtain ⟨rfl, hP, hK⟩ := hv
  have hx := B.exec
  have hb := B.bytes
  have hr := B.returns
  have hts := atoms_spec (ws := wsX6_isDeedTaken) B.pre
  have hown : s.vm.findClass RX6 = some m.cls := findClass_of_methodNamed B.named
  have hlocks := B.notSynchronized
  have Z : CallFix p m c cX6_isDeedTaken 8 s _ wsX6_isDeedTaken RX6 := ⟨hx, hb, hml, hown, hts⟩
  have hS : va_S (AG G) s.heap s.heap [] := va_S.rf
  have w1 := hts (.initialized RX5) (by decide +kernel)
  have w2n : va_Nw (.methodLinkNest "AlmanacOfTheYearGone$Text" 31 ⟨"AlmanacOfTheYearGone$Shelf", "number", "(II)I"⟩ "AlmanacOfTheYearGone") s := hK.2 _ (List.mem_of_getElem? (i := 47) rfl)
  have w2 := va_Nw.use (A := [.ref (gA G i0), .int x1, .ref (gA G i2)].toArray) rfl w2n
  have w3 := hts (.instanceMethod yX5_number) (by decide +kernel)
  have w4 := hts (.selects RX5 yX5_number yX5_number) (by decide +kernel)
  have w5 := hts (.initialized RX7) (by decide +kernel)
  have w6n : va_Nw (.methodLinkNest "AlmanacOfTheYearGone$Text" 43 ⟨"AlmanacOfTheYearGone$Year", "add", "(IIIII)Z"⟩ "AlmanacOfTheYearGone") s := hK.2 _ (List.mem_of_getElem? (i := 48) rfl)
  have w6 := va_Nw.use (A := [.ref (gA G i0), .int x1, .ref (gA G i2)].toArray) rfl w6n
  have w7 := hts (.instanceMethod yX7_add) (by decide +kernel)
  have w8 := hts (.selects RX7 yX7_add yX7_add) (by decide +kernel)
  have hl := lv_entry ([.ref (gA G i0), .int x1, .ref (gA G i2)]) (n := 8) (Nat.le_of_ble_eq_true rfl)
  rw [lg_entry_eq]
  generalize (lg_sl ([.ref (gA G i0), .int x1, .ref (gA G i2)]) ++ List.replicate (8 - (lg_sl ([.ref (gA G i0), .int x1, .ref (gA G i2)])).length) Slot.unset).toArray = ls at hl ⊢
  have hl : lv_has ls 8 [(0, .ref (gA G i0)), (1, .int x1), (2, .ref (gA G i2))] := hl
  unfold f_X6_isDeedTaken at hF
  refine lv_aload_n hx hb dX6_isDeedTaken_0 rfl (lv_at hl 0 rfl) ?_
  refine lv_iload_n hx hb dX6_isDeedTaken_1 rfl (lv_at hl 1 rfl) ?_
  refine lv_iconst (v := 1) hx hb dX6_isDeedTaken_2 (by decide) ?_
  refine lv_iadd hx hb dX6_isDeedTaken_3 ?_
  refine lv_iconst (v := 1) hx hb dX6_isDeedTaken_4 (by decide) ?_
  obtain ⟨q1, h2, hF⟩ := ob_some hF
  refine k_VNv (As := [.int (x1 + (1 : Int32)), .int (1 : Int32)]) (rest := []) Z hK hP hS (t_X5_number l G hG i0 (x1 + (1 : Int32)) (1 : Int32) hk0 σ _ h2) ⟨va_cnB 2 hts gX6_isDeedTaken_X5_number_n31 rfl rfl rfl w2n w1 (by decide +kernel) ⟨Nat.le_of_ble_eq_true rfl, Nat.le_of_ble_eq_true rfl⟩, w3, w4⟩ (at_2 hk0) rfl rfl hl.1 rfl (Nat.le_of_ble_eq_true rfl) ⟨Nat.zero_le _, Nat.zero_le _⟩ dX6_isDeedTaken_5 (fun H locs hP hS => ?_)
  refine lv_istore_n (lv' := [(3, .int q1), (0, .ref (gA G i0)), (1, .int x1), (2, .ref (gA G i2))]) hx hb dX6_isDeedTaken_8 rfl hl (by decide) rfl (fun ls hl => ?_)
  refine lv_aload_n hx hb dX6_isDeedTaken_9 rfl (lv_at hl 1 rfl) ?_
  refine lv_iload_n hx hb dX6_isDeedTaken_10 rfl (lv_at hl 2 rfl) ?_
  refine lv_iconst (v := 2) hx hb dX6_isDeedTaken_11 (by decide) ?_
  refine lv_iadd hx hb dX6_isDeedTaken_12 ?_
  refine lv_iconst (v := 1) hx hb dX6_isDeedTaken_13 (by decide) ?_
  obtain ⟨q3, h4, hF⟩ := ob_some hF
  refine k_VNv (As := [.int (x1 + (2 : Int32)), .int (1 : Int32)]) (rest := []) Z hK hP hS (t_X5_number l G hG i0 (x1 + (2 : Int32)) (1 : Int32) hk0 σ _ h4) ⟨va_cnB 2 hts gX6_isDeedTaken_X5_number_n31 rfl rfl rfl w2n w1 (by decide +kernel) ⟨Nat.le_of_ble_eq_true rfl, Nat.le_of_ble_eq_true rfl⟩, w3, w4⟩ (at_2 hk0) rfl rfl hl.1 rfl (Nat.le_of_ble_eq_true rfl) ⟨Nat.zero_le _, Nat.zero_le _⟩ dX6_isDeedTaken_14 (fun H locs hP hS => ?_)
  refine lv_istore (lv' := [(4, .int q3), (3, .int q1), (0, .ref (gA G i0)), (1, .int x1), (2, .ref (gA G i2))]) hx hb dX6_isDeedTaken_17 hl (by decide) rfl (fun ls hl => ?_)
  refine lv_aload_n hx hb dX6_isDeedTaken_19 rfl (lv_at hl 2 rfl) ?_
  refine lv_iload_n hx hb dX6_isDeedTaken_20 rfl (lv_at hl 3 rfl) ?_
  refine lv_iconst (v := 3) hx hb dX6_isDeedTaken_21 (by decide) ?_
  refine lv_iadd hx hb dX6_isDeedTaken_22 ?_
  refine lv_iconst (v := 3) hx hb dX6_isDeedTaken_23 (by decide) ?_
  obtain ⟨q5, h6, hF⟩ := ob_some hF
  refine k_VNv (As := [.int (x1 + (3 : Int32)), .int (3 : Int32)]) (rest := []) Z hK hP hS (t_X5_number l G hG i0 (x1 + (3 : Int32)) (3 : Int32) hk0 σ _ h6) ⟨va_cnB 2 hts gX6_isDeedTaken_X5_number_n31 rfl rfl rfl w2n w1 (by decide +kernel) ⟨Nat.le_of_ble_eq_true rfl, Nat.le_of_ble_eq_true rfl⟩, w3, w4⟩ (at_2 hk0) rfl rfl hl.1 rfl (Nat.le_of_ble_eq_true rfl) ⟨Nat.zero_le _, Nat.zero_le _⟩ dX6_isDeedTaken_24 (fun H locs hP hS => ?_)
  refine lv_istore (lv' := [(5, .int q5), (4, .int q3), (3, .int q1), (0, .ref (gA G i0)), (1, .int x1), (2, .ref (gA G i2))]) hx hb dX6_isDeedTaken_27 hl (by decide) rfl (fun ls hl => ?_)
  refine lv_aload_n hx hb dX6_isDeedTaken_29 rfl (lv_at hl 3 rfl) ?_
  refine lv_iload_n hx hb dX6_isDeedTaken_30 rfl (lv_at hl 4 rfl) ?_
  refine lv_bipush (v := 6) hx hb dX6_isDeedTaken_31 (by decide) ?_
  refine lv_iadd hx hb dX6_isDeedTaken_33 ?_
  refine lv_iconst (v := 1) hx hb dX6_isDeedTaken_34 (by decide) ?_
  obtain ⟨q7, h8, hF⟩ := ob_some hF
  refine k_VNv (As := [.int (x1 + (6 : Int32)), .int (1 : Int32)]) (rest := []) Z hK hP hS (t_X5_number l G hG i0 (x1 + (6 : Int32)) (1 : Int32) hk0 σ _ h8) ⟨va_cnB 2 hts gX6_isDeedTaken_X5_number_n31 rfl rfl rfl w2n w1 (by decide +kernel) ⟨Nat.le_of_ble_eq_true rfl, Nat.le_of_ble_eq_true rfl⟩, w3, w4⟩ (at_2 hk0) rfl rfl hl.1 rfl (Nat.le_of_ble_eq_true rfl) ⟨Nat.zero_le _, Nat.zero_le _⟩ dX6_isDeedTaken_35 (fun H locs hP hS => ?_)
  refine lv_istore (lv' := [(6, .int q7), (5, .int q5), (4, .int q3), (3, .int q1), (0, .ref (gA G i0)), (1, .int x1), (2, .ref (gA G i2))]) hx hb dX6_isDeedTaken_38 hl (by decide) rfl (fun ls hl => ?_)
  refine lv_aload_n hx hb dX6_isDeedTaken_40 rfl (lv_at hl 4 rfl) ?_
  refine lv_iload_n hx hb dX6_isDeedTaken_41 rfl (lv_at hl 5 rfl) ?_
  refine lv_bipush (v := 7) hx hb dX6_isDeedTaken_42 (by decide) ?_
  refine lv_iadd hx hb dX6_isDeedTaken_44 ?_
  refine lv_iconst (v := 2) hx hb dX6_isDeedTaken_45 (by decide) ?_
  obtain ⟨q9, h10, hF⟩ := ob_some hF
  refine k_VNv (As := [.int (x1 + (7 : Int32)), .int (2 : Int32)]) (rest := []) Z hK hP hS (t_X5_number l G hG i0 (x1 + (7 : Int32)) (2 : Int32) hk0 σ _ h10) ⟨va_cnB 2 hts gX6_isDeedTaken_X5_number_n31 rfl rfl rfl w2n w1 (by decide +kernel) ⟨Nat.le_of_ble_eq_true rfl, Nat.le_of_ble_eq_true rfl⟩, w3, w4⟩ (at_2 hk0) rfl rfl hl.1 rfl (Nat.le_of_ble_eq_true rfl) ⟨Nat.zero_le _, Nat.zero_le _⟩ dX6_isDeedTaken_46 (fun H locs hP hS => ?_)
  refine lv_istore (lv' := [(7, .int q9), (6, .int q7), (5, .int q5), (4, .int q3), (3, .int q1), (0, .ref (gA G i0)), (1, .int x1), (2, .ref (gA G i2))]) hx hb dX6_isDeedTaken_49 hl (by decide) rfl (fun ls hl => ?_)
  refine lv_iload_n hx hb dX6_isDeedTaken_51 rfl (lv_at hl 4 rfl) ?_
  refine lv_bipush (v := 8) hx hb dX6_isDeedTaken_52 (by decide) ?_
  refine lv_icmp_ge (tgt := 78) hx hb dX6_isDeedTaken_54 (by decide) (fun c11 => ?_) (fun c11 => ?_)
  · have hF := ite_t c11 hF
    refine lv_iconst (v := 0) hx hb dX6_isDeedTaken_78 (by decide) ?_
    exact e_zS (b := false) hx hb hr hP hS hlocks dX6_isDeedTaken_79 rfl hF
  · have hF := ite_f c11 hF
    refine lv_iload hx hb dX6_isDeedTaken_57 (lv_at hl 2 rfl) ?_
    refine lv_sipush (v := 364) hx hb dX6_isDeedTaken_59 (by decide) ?_
    refine lv_icmp_gt (tgt := 78) hx hb dX6_isDeedTaken_62 (by decide) (fun c12 => ?_) (fun c12 => ?_)
    · have hF := ite_t c12 hF
      refine lv_iconst (v := 0) hx hb dX6_isDeedTaken_78 (by decide) ?_
      exact e_zS (b := false) hx hb hr hP hS hlocks dX6_isDeedTaken_79 rfl hF
    · have hF := ite_f c12 hF
      refine lv_iload hx hb dX6_isDeedTaken_65 (lv_at hl 1 rfl) ?_
      refine lv_iconst (v := 5) hx hb dX6_isDeedTaken_67 (by decide) ?_
      refine lv_icmp_ge (tgt := 78) hx hb dX6_isDeedTaken_68 (by decide) (fun c13 => ?_) (fun c13 => ?_)
      · have hF := ite_t c13 hF
        refine lv_iconst (v := 0) hx hb dX6_isDeedTaken_78 (by decide) ?_
        exact e_zS (b := false) hx hb hr hP hS hlocks dX6_isDeedTaken_79 rfl hF
      · have hF := ite_f c13 hF
        refine lv_iload hx hb dX6_isDeedTaken_71 (lv_at hl 0 rfl) ?_
        refine lv_bipush (v := 31) hx hb dX6_isDeedTaken_73 (by decide) ?_
        refine lv_icmp_le (tgt := 80) hx hb dX6_isDeedTaken_75 (by decide) (fun c14 => ?_) (fun c14 => ?_)
        · have hF := ite_t c14 hF
          refine lv_iload hx hb dX6_isDeedTaken_80 (lv_at hl 0 rfl) ?_
          refine lv_iload hx hb dX6_isDeedTaken_82 (lv_at hl 1 rfl) ?_
          refine lv_ishr hx hb dX6_isDeedTaken_84 ?_
          refine lv_iconst (v := 1) hx hb dX6_isDeedTaken_85 (by decide) ?_
          refine lv_iand hx hb dX6_isDeedTaken_86 ?_
          refine lv_if_ne (tgt := 110) hx hb dX6_isDeedTaken_87 (by decide) (fun c15 => ?_) (fun c15 => ?_)
          · have hF := ite_f c15 hF
            refine lv_iconst (v := 0) hx hb dX6_isDeedTaken_110 (by decide) ?_
            exact e_zS (b := false) hx hb hr hP hS hlocks dX6_isDeedTaken_111 rfl hF
          · have hF := ite_t c15 hF
            refine lv_aload_n hx hb dX6_isDeedTaken_90 rfl (lv_at hl 7 rfl) ?_
            refine lv_iload_n hx hb dX6_isDeedTaken_91 rfl (lv_at hl 4 rfl) ?_
            refine lv_iload hx hb dX6_isDeedTaken_92 (lv_at hl 3 rfl) ?_
            refine lv_iload hx hb dX6_isDeedTaken_94 (lv_at hl 2 rfl) ?_
            refine lv_iload hx hb dX6_isDeedTaken_96 (lv_at hl 1 rfl) ?_
            refine lv_iload hx hb dX6_isDeedTaken_98 (lv_at hl 0 rfl) ?_
            obtain ⟨q16, h17, hF⟩ := ob_some hF
            refine k_VNv (As := [.int q1, .int q3, .int q5, .int q7, .int q9]) (rest := []) Z hK hP hS (t_X7_add l G hG i2 q1 q3 q5 q7 q9 hk2 σ _ h17) ⟨va_cnB 5 hts gX6_isDeedTaken_X7_add_n43 rfl rfl rfl w6n w5 (by decide +kernel) ⟨Nat.le_of_ble_eq_true rfl, Nat.le_of_ble_eq_true rfl⟩, w7, w8⟩ (at_3 hk2) rfl rfl hl.1 rfl (Nat.le_of_ble_eq_true rfl) ⟨Nat.zero_le _, Nat.zero_le _⟩ dX6_isDeedTaken_100 (fun H locs hP hS => ?_)
            refine lv_if_eq (tgt := 110) hx hb dX6_isDeedTaken_103 (by decide) (fun c18 => ?_) (fun c18 => ?_)
            · have hF := ite_f (b2i_e0 c18) hF
              refine lv_iconst (v := 0) hx hb dX6_isDeedTaken_110 (by decide) ?_
              exact e_zS (b := false) hx hb hr hP hS hlocks dX6_isDeedTaken_111 rfl hF
            · have hF := ite_t (b2i_n0 c18) hF
              refine lv_iconst (v := 1) hx hb dX6_isDeedTaken_106 (by decide) ?_
              refine lv_goto (tgt := 111) hx hb dX6_isDeedTaken_107 (by decide) ?_
              exact e_zS (b := true) hx hb hr hP hS hlocks dX6_isDeedTaken_111 rfl hF
        · have hF := ite_f c14 hF
          refine lv_iconst (v := 0) hx hb dX6_isDeedTaken_78 (by decide) ?_
          exact e_zS (b := false) hx hb hr hP hS hlocks dX6_isDeedTaken_79 rfl hF
def f_X6_isTodayTaken (x0 : Int32) (i1 : Nat) (σ : St) : Option (Bool × St) := (if x0 ≤ (365 : Int32) then (some (true, up σ i1 3 x0)) else (some (false, σ)))
set_option maxRecDepth 100000 in
set_option maxHeartbeats 4000000 in
theorem t_X6_isTodayTaken (l : Launch) (G : GT) (hG : Dw G) (x0 : Int32) (i1 : Nat) (hk1 : kd i1 = 3) (σ : St) (o : Bool × St) (hF : f_X6_isTodayTaken x0 i1 σ = some o) : Ct l G yX6_isTodayTaken wsX6_isTodayTaken 0 0 [.int x0, .ref (gA G i1)] σ (some (.int (b2i o.1))) o.2 := by
  refine Met.ofW (cc := cX6_isTodayTaken) (maxL := 2) (ret := (some .boolean)) (by decide) rfl ?_
  intro p e s m args below meth c s₁ B hml hv
  obtain ⟨rfl, hP, hK⟩ := hv
  have hx := B.exec
  have hb := B.bytes
  have hr := B.returns
  have hts := atoms_spec (ws := wsX6_isTodayTaken) B.pre
  have hown : s.vm.findClass RX6 = some m.cls := findClass_of_methodNamed B.named
  have hlocks := B.notSynchronized
  have Z : CallFix p m c cX6_isTodayTaken 2 s _ wsX6_isTodayTaken RX6 := ⟨hx, hb, hml, hown, hts⟩
  have hS : va_S (AG G) s.heap s.heap [] := va_S.rf
  have inX7 : ∀ w ∈ u_ws RX7 TX7 4, w ∈ wsX6_isTodayTaken := by decide +kernel
  have w1n : va_Nw (.fieldLinkNest "AlmanacOfTheYearGone$Text" 49 "AlmanacOfTheYearGone$Year" "day" "I" "AlmanacOfTheYearGone") s := hK.2 _ (List.mem_of_getElem? (i := 28) rfl)
  have w1 := va_Nw.use (A := [.int x0, .ref (gA G i1)].toArray) rfl w1n
  have hl := lv_entry ([.int x0, .ref (gA G i1)]) (n := 2) (Nat.le_of_ble_eq_true rfl)
  rw [lg_entry_eq]
  generalize (lg_sl ([.int x0, .ref (gA G i1)]) ++ List.replicate (2 - (lg_sl ([.int x0, .ref (gA G i1)])).length) Slot.unset).toArray = ls at hl ⊢
  have hl : lv_has ls 2 [(0, .int x0), (1, .ref (gA G i1))] := hl
  unfold f_X6_isTodayTaken at hF
  refine lv_iload_n hx hb dX6_isTodayTaken_0 rfl (lv_at hl 0 rfl) ?_
  refine lv_sipush (v := 365) hx hb dX6_isTodayTaken_1 (by decide) ?_
  refine lv_icmp_le (tgt := 9) hx hb dX6_isTodayTaken_4 (by decide) (fun c1 => ?_) (fun c1 => ?_)
  · have hF := ite_t c1 hF
    refine lv_aload_n hx hb dX6_isTodayTaken_9 rfl (lv_at hl 1 rfl) ?_
    refine lv_iload_n hx hb dX6_isTodayTaken_10 rfl (lv_at hl 0 rfl) ?_
    refine va_putN (ci := 3) (C := RX7) (T := TX7) (N := 4) (v := .int x0) (ty := .int) hx hb hts inX7 tyX7 tyX7_ok nmX7 hown hK.1 hP (Dw.D hG) hS i1 (at_3 hk1) rfl 3 (by decide) w1 (fun _ h9 => h9) rfl (by decide +kernel) rfl rfl (Nat.le_of_ble_eq_true rfl) dX6_isTodayTaken_11 (fun H locs hP _ hS => ?_)
    have hP := Pw.of hP (set_3_3 hk1)
    refine lv_iconst (v := 1) hx hb dX6_isTodayTaken_14 (by decide) ?_
    exact e_zS (b := true) hx hb hr hP hS hlocks dX6_isTodayTaken_15 rfl hF
  · have hF := ite_f c1 hF
    refine lv_iconst (v := 0) hx hb dX6_isTodayTaken_7 (by decide) ?_
    exact e_zS (b := false) hx hb hr hP hS hlocks dX6_isTodayTaken_8 rfl hF
def f_X6_isSightTaken (x0 : Int32) (x1 : Int32) (i2 : Nat) (σ : St) : Option (Bool × St) := (ob (f_X7_deedAt i2 x0 σ) (fun q1 => oc q1 ((some (false, σ))) (fun i3 => (if (5 : Int32) ≤ x1 then (some (false, σ)) else (if (σ i3 3) = x1 then (some (false, σ)) else (ob (f_X1_turnSeen i3 x1 σ) (fun q6 => some (true, q6))))))))
set_option maxRecDepth 100000 in
set_option maxHeartbeats 4000000 in
theorem t_X6_isSightTaken (l : Launch) (G : GT) (hG : Dw G) (x0 : Int32) (x1 : Int32) (i2 : Nat) (hk2 : kd i2 = 3) (σ : St) (o : Bool × St) (hF : f_X6_isSightTaken x0 x1 i2 σ = some o) : Ct l G yX6_isSightTaken wsX6_isSightTaken 1 21 [.int x0, .int x1, .ref (gA G i2)] σ (some (.int (b2i o.1))) o.2 := by
  refine Met.ofW (cc := cX6_isSightTaken) (maxL := 4) (ret := (some .boolean)) (by decide) rfl ?_
  intro p e s m args below meth c s₁ B hml hv
  obtain ⟨rfl, hP, hK⟩ := hv
  have hx := B.exec
  have hb := B.bytes
  have hr := B.returns
  have hts := atoms_spec (ws := wsX6_isSightTaken) B.pre
  have hown : s.vm.findClass RX6 = some m.cls := findClass_of_methodNamed B.named
  have hlocks := B.notSynchronized
  have Z : CallFix p m c cX6_isSightTaken 4 s _ wsX6_isSightTaken RX6 := ⟨hx, hb, hml, hown, hts⟩
  have hS : va_S (AG G) s.heap s.heap [] := va_S.rf
  have inX1 : ∀ w ∈ u_ws RX1 TX1 7, w ∈ wsX6_isSightTaken := by decide +kernel
  have w1 := hts (.initialized RX7) (by decide +kernel)
  have w2n : va_Nw (.methodLinkNest "AlmanacOfTheYearGone$Text" 52 ⟨"AlmanacOfTheYearGone$Year", "deedAt", "(I)LAlmanacOfTheYearGone$Deed;"⟩ "AlmanacOfTheYearGone") s := hK.2 _ (List.mem_of_getElem? (i := 49) rfl)
  have w2 := va_Nw.use (A := [.int x0, .int x1, .ref (gA G i2)].toArray) rfl w2n
  have w3 := hts (.instanceMethod yX7_deedAt) (by decide +kernel)
  have w4 := hts (.selects RX7 yX7_deedAt yX7_deedAt) (by decide +kernel)
  have w5n : va_Nw (.fieldLinkNest "AlmanacOfTheYearGone$Text" 56 "AlmanacOfTheYearGone$Deed" "who" "I" "AlmanacOfTheYearGone") s := hK.2 _ (List.mem_of_getElem? (i := 18) rfl)
  have w5 := va_Nw.use (A := [.int x0, .int x1, .ref (gA G i2)].toArray) rfl w5n
  have w6 := hts (.initialized RX1) (by decide +kernel)
  have w7n : va_Nw (.methodLinkNest "AlmanacOfTheYearGone$Text" 61 ⟨"AlmanacOfTheYearGone$Deed", "turnSeen", "(I)V"⟩ "AlmanacOfTheYearGone") s := hK.2 _ (List.mem_of_getElem? (i := 50) rfl)
  have w7 := va_Nw.use (A := [.int x0, .int x1, .ref (gA G i2)].toArray) rfl w7n
  have w8 := hts (.instanceMethod yX1_turnSeen) (by decide +kernel)
  have w9 := hts (.selects RX1 yX1_turnSeen yX1_turnSeen) (by decide +kernel)
  have hl := lv_entry ([.int x0, .int x1, .ref (gA G i2)]) (n := 4) (Nat.le_of_ble_eq_true rfl)
  rw [lg_entry_eq]
  generalize (lg_sl ([.int x0, .int x1, .ref (gA G i2)]) ++ List.replicate (4 - (lg_sl ([.int x0, .int x1, .ref (gA G i2)])).length) Slot.unset).toArray = ls at hl ⊢
  have hl : lv_has ls 4 [(0, .int x0), (1, .int x1), (2, .ref (gA G i2))] := hl
  unfold f_X6_isSightTaken at hF
  refine lv_aload_n hx hb dX6_isSightTaken_0 rfl (lv_at hl 2 rfl) ?_
  refine lv_iload_n hx hb dX6_isSightTaken_1 rfl (lv_at hl 0 rfl) ?_
  obtain ⟨q1, h2, hF⟩ := ob_some hF
  refine k_VNv (As := [.int x0]) (rest := []) Z hK hP hS (t_X7_deedAt l G hG i2 x0 hk2 σ _ h2) ⟨va_cnB 1 hts gX6_isSightTaken_X7_deedAt_n52 rfl rfl rfl w2n w1 (by decide +kernel) ⟨Nat.le_of_ble_eq_true rfl, Nat.le_of_ble_eq_true rfl⟩, w3, w4⟩ (at_3 hk2) rfl rfl hl.1 rfl (Nat.le_of_ble_eq_true rfl) ⟨Nat.zero_le _, Nat.zero_le _⟩ dX6_isSightTaken_2 (fun H locs hP hS => ?_)
  rcases q1 with _ | i3
  · have hF := oc_n hF
    refine W.eq (g2 := F0 m 5 ls [.null]) rfl ?_
    refine lv_astore_nN (lv' := [(3, .null), (0, .int x0), (1, .int x1), (2, .ref (gA G i2))]) hx hb dX6_isSightTaken_5 rfl hl (by decide) rfl (fun ls hl => ?_)
    refine lv_aload_nN hx hb dX6_isSightTaken_6 rfl (lv_at hl 0 rfl) ?_
    refine lv_ifnullN (tgt := 23) hx hb dX6_isSightTaken_7 (by decide) ?_
    refine lv_iconst (v := 0) hx hb dX6_isSightTaken_23 (by decide) ?_
    exact e_zS (b := false) hx hb hr hP hS hlocks dX6_isSightTaken_24 rfl hF
  · have hF := oc_s hF
    have ki3 : kd i3 = 1 := q_X7_deedAt hk2 h2
    refine W.eq (g2 := F0 m 5 ls [.ref (gA G i3)]) rfl ?_
    refine lv_astore_n (lv' := [(3, .ref (gA G i3)), (0, .int x0), (1, .int x1), (2, .ref (gA G i2))]) hx hb dX6_isSightTaken_5 rfl hl (by decide) rfl (fun ls hl => ?_)
    refine lv_aload_n hx hb dX6_isSightTaken_6 rfl (lv_at hl 0 rfl) ?_
    refine lv_ifnull hx hb dX6_isSightTaken_7 ?_
    refine lv_iload_n hx hb dX6_isSightTaken_10 rfl (lv_at hl 2 rfl) ?_
    refine lv_iconst (v := 5) hx hb dX6_isSightTaken_11 (by decide) ?_
    refine lv_icmp_ge (tgt := 23) hx hb dX6_isSightTaken_12 (by decide) (fun c4 => ?_) (fun c4 => ?_)
    · have hF := ite_t c4 hF
      refine lv_iconst (v := 0) hx hb dX6_isSightTaken_23 (by decide) ?_
      exact e_zS (b := false) hx hb hr hP hS hlocks dX6_isSightTaken_24 rfl hF
    · have hF := ite_f c4 hF
      refine lv_aload_n hx hb dX6_isSightTaken_15 rfl (lv_at hl 0 rfl) ?_
      refine va_getN (ci := 1) (C := RX1) (T := TX1) (N := 7) (v := .int (σ i3 3)) hx hb hts inX1 hown hK.1 hP i3 (at_1 ki3) rfl 3 (by decide) w5 (fun _ h9 => h9) rfl dX6_isSightTaken_16 ?_
      refine lv_iload_n hx hb dX6_isSightTaken_19 rfl (lv_at hl 2 rfl) ?_
      refine lv_icmp_ne (tgt := 25) hx hb dX6_isSightTaken_20 (by decide) (fun c5 => ?_) (fun c5 => ?_)
      · have hF := ite_f c5 hF
        refine lv_aload_n hx hb dX6_isSightTaken_25 rfl (lv_at hl 0 rfl) ?_
        refine lv_iload_n hx hb dX6_isSightTaken_26 rfl (lv_at hl 2 rfl) ?_
        obtain ⟨q6, h7, hF⟩ := ob_some hF
        refine k_VN0 (As := [.int x1]) (rest := []) Z hK hP hS (t_X1_turnSeen l G hG i3 x1 ki3 σ _ h7) ⟨va_cnB 1 hts gX6_isSightTaken_X1_turnSeen_n61 rfl rfl rfl w7n w6 (by decide +kernel) ⟨Nat.le_of_ble_eq_true rfl, Nat.le_of_ble_eq_true rfl⟩, w8, w9⟩ (at_1 ki3) rfl rfl hl.1 rfl (Nat.le_of_ble_eq_true rfl) ⟨Nat.zero_le _, Nat.zero_le _⟩ dX6_isSightTaken_27 (fun H locs hP hS => ?_)
        refine lv_iconst (v := 1) hx hb dX6_isSightTaken_30 (by decide) ?_
        exact e_zS (b := true) hx hb hr hP hS hlocks dX6_isSightTaken_31 rfl hF
      · have hF := ite_t c5 hF
        refine lv_iconst (v := 0) hx hb dX6_isSightTaken_23 (by decide) ?_
        exact e_zS (b := false) hx hb hr hP hS hlocks dX6_isSightTaken_24 rfl hF
def f_X6_isTaken (i0 : Nat) (x1 : Int32) (i2 : Nat) (σ : St) : Option (Bool × St) := (ob (f_X5_cell i0 x1 σ) (fun q1 => if q1 = (100 : Int32) then (ob (f_X6_isDeedTaken i0 x1 i2 σ) (fun q4 => some (q4.1, q4.2))) else if q1 = (116 : Int32) then (ob (f_X5_number i0 (x1 + (1 : Int32)) (3 : Int32) σ) (fun q7 => ob (f_X6_isTodayTaken q7 i2 σ) (fun q9 => some (q9.1, q9.2)))) else (ob (f_X5_number i0 (x1 + (1 : Int32)) (1 : Int32) σ) (fun q11 => ob (f_X5_number i0 (x1 + (2 : Int32)) (1 : Int32) σ) (fun q13 => ob (f_X6_isSightTaken q11 q13 i2 σ) (fun q15 => some (q15.1, q15.2)))))))
set_option maxRecDepth 100000 in
set_option maxHeartbeats 4000000 in
theorem t_X6_isTaken (l : Launch) (G : GT) (hG : Dw G) (i0 : Nat) (x1 : Int32) (i2 : Nat) (hk0 : kd i0 = 2) (hk2 : kd i2 = 3) (σ : St) (o : Bool × St) (hF : f_X6_isTaken i0 x1 i2 σ = some o) : Ct l G yX6_isTaken wsX6_isTaken 4 101 [.ref (gA G i0), .int x1, .ref (gA G i2)] σ (some (.int (b2i o.1))) o.2 := by
  refine Met.ofW (cc := cX6_isTaken) (maxL := 3) (ret := (some .boolean)) (by decide) rfl ?_
  intro p e s m args below meth c s₁ B hml hv
  obtain ⟨rfl, hP, hK⟩ := hv
  have hx := B.exec
  have hb := B.bytes
  have hr := B.returns
  have hts := atoms_spec (ws := wsX6_isTaken) B.pre
  have hown : s.vm.findClass RX6 = some m.cls := findClass_of_methodNamed B.named
  have hlocks := B.notSynchronized
  have Z : CallFix p m c cX6_isTaken 3 s _ wsX6_isTaken RX6 := ⟨hx, hb, hml, hown, hts⟩
  have hS : va_S (AG G) s.heap s.heap [] := va_S.rf
  have w1 := hts (.initialized RX5) (by decide +kernel)
  have w2n : va_Nw (.methodLinkNest "AlmanacOfTheYearGone$Text" 15 ⟨"AlmanacOfTheYearGone$Shelf", "cell", "(I)I"⟩ "AlmanacOfTheYearGone") s := hK.2 _ (List.mem_of_getElem? (i := 41) rfl)
  have w2 := va_Nw.use (A := [.ref (gA G i0), .int x1, .ref (gA G i2)].toArray) rfl w2n
  have w3 := hts (.instanceMethod yX5_cell) (by decide +kernel)
  have w4 := hts (.selects RX5 yX5_cell yX5_cell) (by decide +kernel)
  have w5n : va_Nw (.methodLinkNest "AlmanacOfTheYearGone$Text" 31 ⟨"AlmanacOfTheYearGone$Shelf", "number", "(II)I"⟩ "AlmanacOfTheYearGone") s := hK.2 _ (List.mem_of_getElem? (i := 47) rfl)
  have w5 := va_Nw.use (A := [.ref (gA G i0), .int x1, .ref (gA G i2)].toArray) rfl w5n
  have w6 := hts (.instanceMethod yX5_number) (by decide +kernel)
  have w7 := hts (.selects RX5 yX5_number yX5_number) (by decide +kernel)
  have hl := lv_entry ([.ref (gA G i0), .int x1, .ref (gA G i2)]) (n := 3) (Nat.le_of_ble_eq_true rfl)
  rw [lg_entry_eq]
  generalize (lg_sl ([.ref (gA G i0), .int x1, .ref (gA G i2)]) ++ List.replicate (3 - (lg_sl ([.ref (gA G i0), .int x1, .ref (gA G i2)])).length) Slot.unset).toArray = ls at hl ⊢
  have hl : lv_has ls 3 [(0, .ref (gA G i0)), (1, .int x1), (2, .ref (gA G i2))] := hl
  unfold f_X6_isTaken at hF
  refine lv_aload_n hx hb dX6_isTaken_0 rfl (lv_at hl 0 rfl) ?_
  refine lv_iload_n hx hb dX6_isTaken_1 rfl (lv_at hl 1 rfl) ?_
  obtain ⟨q1, h2, hF⟩ := ob_some hF
  refine k_VNv (As := [.int x1]) (rest := []) Z hK hP hS (t_X5_cell l G hG i0 x1 hk0 σ _ h2) ⟨va_cnB 1 hts gX6_isTaken_X5_cell_n15 rfl rfl rfl w2n w1 (by decide +kernel) ⟨Nat.le_of_ble_eq_true rfl, Nat.le_of_ble_eq_true rfl⟩, w3, w4⟩ (at_2 hk0) rfl rfl hl.1 rfl (Nat.le_of_ble_eq_true rfl) ⟨Nat.zero_le _, Nat.zero_le _⟩ dX6_isTaken_2 (fun H locs hP hS => ?_)
  by_cases c3 : q1 = (100 : Int32)
  · have hF := ite_t c3 hF
    refine lv_lookup (off := 27) (tgt := 32) hx hb dX6_isTaken_5 (by decide) (by rw [c3]; rfl) (by decide) ?_
    refine lv_aload_n hx hb dX6_isTaken_32 rfl (lv_at hl 0 rfl) ?_
    refine lv_iload_n hx hb dX6_isTaken_33 rfl (lv_at hl 1 rfl) ?_
    refine lv_aload_n hx hb dX6_isTaken_34 rfl (lv_at hl 2 rfl) ?_
    obtain ⟨q4, h5, hF⟩ := ob_some hF
    refine k_Sv (As := [.ref (gA G i0), .int x1, .ref (gA G i2)]) (rest := []) Z hK hP hS (t_X6_isDeedTaken l G hG i0 x1 i2 hk0 hk2 σ _ h5) (va_cwS 3 hts gX6_isTaken_X6_isDeedTaken rfl rfl rfl (by decide +kernel) ⟨Nat.le_of_ble_eq_true rfl, Nat.le_of_ble_eq_true rfl⟩) rfl hl.1 rfl (Nat.le_of_ble_eq_true rfl) ⟨Nat.zero_le _, Nat.zero_le _⟩ dX6_isTaken_35 (fun H locs hP hS => ?_)
    exact e_zS (b := q4.1) hx hb hr hP hS hlocks dX6_isTaken_38 rfl hF
  · have hF := ite_f c3 hF
    by_cases c6 : q1 = (116 : Int32)
    · have hF := ite_t c6 hF
      refine lv_lookup (off := 34) (tgt := 39) hx hb dX6_isTaken_5 (by decide) (by rw [c6]; rfl) (by decide) ?_
      refine lv_aload_n hx hb dX6_isTaken_39 rfl (lv_at hl 0 rfl) ?_
      refine lv_iload_n hx hb dX6_isTaken_40 rfl (lv_at hl 1 rfl) ?_
      refine lv_iconst (v := 1) hx hb dX6_isTaken_41 (by decide) ?_
      refine lv_iadd hx hb dX6_isTaken_42 ?_
      refine lv_iconst (v := 3) hx hb dX6_isTaken_43 (by decide) ?_
      obtain ⟨q7, h8, hF⟩ := ob_some hF
      refine k_VNv (As := [.int (x1 + (1 : Int32)), .int (3 : Int32)]) (rest := []) Z hK hP hS (t_X5_number l G hG i0 (x1 + (1 : Int32)) (3 : Int32) hk0 σ _ h8) ⟨va_cnB 2 hts gX6_isTaken_X5_number_n31 rfl rfl rfl w5n w1 (by decide +kernel) ⟨Nat.le_of_ble_eq_true rfl, Nat.le_of_ble_eq_true rfl⟩, w6, w7⟩ (at_2 hk0) rfl rfl hl.1 rfl (Nat.le_of_ble_eq_true rfl) ⟨Nat.zero_le _, Nat.zero_le _⟩ dX6_isTaken_44 (fun H locs hP hS => ?_)
      refine lv_aload_n hx hb dX6_isTaken_47 rfl (lv_at hl 2 rfl) ?_
      obtain ⟨q9, h10, hF⟩ := ob_some hF
      refine k_Sv (As := [.int q7, .ref (gA G i2)]) (rest := []) Z hK hP hS (t_X6_isTodayTaken l G hG q7 i2 hk2 σ _ h10) (va_cwS 2 hts gX6_isTaken_X6_isTodayTaken rfl rfl rfl (by decide +kernel) ⟨Nat.le_of_ble_eq_true rfl, Nat.le_of_ble_eq_true rfl⟩) rfl hl.1 rfl (Nat.le_of_ble_eq_true rfl) ⟨Nat.zero_le _, Nat.zero_le _⟩ dX6_isTaken_48 (fun H locs hP hS => ?_)
      exact e_zS (b := q9.1) hx hb hr hP hS hlocks dX6_isTaken_51 rfl hF
    · have hF := ite_f c6 hF
      refine lv_lookup (off := 47) (tgt := 52) hx hb dX6_isTaken_5 (by decide) (by show Op.lookupswitch.offset [(100, 27), (116, 34)] _ _ = _; rw [lv_osw c3 (by decide : ((100 : Int32)).toInt = 100), lv_osw c6 (by decide : ((116 : Int32)).toInt = 116)]; rfl) (by decide) ?_
      refine lv_aload_n hx hb dX6_isTaken_52 rfl (lv_at hl 0 rfl) ?_
      refine lv_iload_n hx hb dX6_isTaken_53 rfl (lv_at hl 1 rfl) ?_
      refine lv_iconst (v := 1) hx hb dX6_isTaken_54 (by decide) ?_
      refine lv_iadd hx hb dX6_isTaken_55 ?_
      refine lv_iconst (v := 1) hx hb dX6_isTaken_56 (by decide) ?_
      obtain ⟨q11, h12, hF⟩ := ob_some hF
      refine k_VNv (As := [.int (x1 + (1 : Int32)), .int (1 : Int32)]) (rest := []) Z hK hP hS (t_X5_number l G hG i0 (x1 + (1 : Int32)) (1 : Int32) hk0 σ _ h12) ⟨va_cnB 2 hts gX6_isTaken_X5_number_n31 rfl rfl rfl w5n w1 (by decide +kernel) ⟨Nat.le_of_ble_eq_true rfl, Nat.le_of_ble_eq_true rfl⟩, w6, w7⟩ (at_2 hk0) rfl rfl hl.1 rfl (Nat.le_of_ble_eq_true rfl) ⟨Nat.zero_le _, Nat.zero_le _⟩ dX6_isTaken_57 (fun H locs hP hS => ?_)
      refine lv_aload_n hx hb dX6_isTaken_60 rfl (lv_at hl 0 rfl) ?_
      refine lv_iload_n hx hb dX6_isTaken_61 rfl (lv_at hl 1 rfl) ?_
      refine lv_iconst (v := 2) hx hb dX6_isTaken_62 (by decide) ?_
      refine lv_iadd hx hb dX6_isTaken_63 ?_
      refine lv_iconst (v := 1) hx hb dX6_isTaken_64 (by decide) ?_
      obtain ⟨q13, h14, hF⟩ := ob_some hF
      refine k_VNv (As := [.int (x1 + (2 : Int32)), .int (1 : Int32)]) (rest := [.int q11]) Z hK hP hS (t_X5_number l G hG i0 (x1 + (2 : Int32)) (1 : Int32) hk0 σ _ h14) ⟨va_cnB 2 hts gX6_isTaken_X5_number_n31 rfl rfl rfl w5n w1 (by decide +kernel) ⟨Nat.le_of_ble_eq_true rfl, Nat.le_of_ble_eq_true rfl⟩, w6, w7⟩ (at_2 hk0) rfl rfl hl.1 rfl (Nat.le_of_ble_eq_true rfl) ⟨Nat.zero_le _, Nat.zero_le _⟩ dX6_isTaken_65 (fun H locs hP hS => ?_)
      refine lv_aload_n hx hb dX6_isTaken_68 rfl (lv_at hl 2 rfl) ?_
      obtain ⟨q15, h16, hF⟩ := ob_some hF
      refine k_Sv (As := [.int q11, .int q13, .ref (gA G i2)]) (rest := []) Z hK hP hS (t_X6_isSightTaken l G hG q11 q13 i2 hk2 σ _ h16) (va_cwS 3 hts gX6_isTaken_X6_isSightTaken rfl rfl rfl (by decide +kernel) ⟨Nat.le_of_ble_eq_true rfl, Nat.le_of_ble_eq_true rfl⟩) rfl hl.1 rfl (Nat.le_of_ble_eq_true rfl) ⟨Nat.zero_le _, Nat.zero_le _⟩ dX6_isTaken_69 (fun H locs hP hS => ?_)
      exact e_zS (b := q15.1) hx hb hr hP hS hlocks dX6_isTaken_72 rfl hF
def f_X6_firstWrongStatement_47 (i0 : Nat) (i1 : Nat) (rec2 : Int32 → St → Option (Int32 × St)) (v2 : Int32) (τ : St) : Option (Int32 × St) := (rec2 (v2 + (1 : Int32)) τ)
theorem f_X6_firstWrongStatement_47_e {i0 : Nat} {i1 : Nat} {rec2 : Int32 → St → Option (Int32 × St)} {v2 : Int32} {τ : St} : f_X6_firstWrongStatement_47 i0 i1 rec2 v2 τ = (rec2 (v2 + (1 : Int32)) τ) := rfl
def f_X6_firstWrongStatement_31 (i0 : Nat) (i1 : Nat) (rec2 : Int32 → St → Option (Int32 × St)) (v2 : Int32) (z0 : Int32) (τ : St) : Option (Int32 × St) := (if z0 = 0 then f_X6_firstWrongStatement_47 i0 i1 rec2 v2 τ else (ob (f_X6_isTaken i0 v2 i1 τ) (fun q3 => if q3.1 = true then f_X6_firstWrongStatement_47 i0 i1 rec2 v2 q3.2 else (some (v2, q3.2)))))
theorem f_X6_firstWrongStatement_31_e {i0 : Nat} {i1 : Nat} {rec2 : Int32 → St → Option (Int32 × St)} {v2 : Int32} {z0 : Int32} {τ : St} : f_X6_firstWrongStatement_31 i0 i1 rec2 v2 z0 τ = (if z0 = 0 then f_X6_firstWrongStatement_47 i0 i1 rec2 v2 τ else (ob (f_X6_isTaken i0 v2 i1 τ) (fun q3 => if q3.1 = true then f_X6_firstWrongStatement_47 i0 i1 rec2 v2 q3.2 else (some (v2, q3.2))))) := rfl
def f_X6_firstWrongStatement_26 (i0 : Nat) (i1 : Nat) (rec2 : Int32 → St → Option (Int32 × St)) (v2 : Int32) (τ : St) : Option (Int32 × St) := (f_X6_firstWrongStatement_31 i0 i1 rec2 v2 (1 : Int32) τ)
theorem f_X6_firstWrongStatement_26_e {i0 : Nat} {i1 : Nat} {rec2 : Int32 → St → Option (Int32 × St)} {v2 : Int32} {τ : St} : f_X6_firstWrongStatement_26 i0 i1 rec2 v2 τ = (f_X6_firstWrongStatement_31 i0 i1 rec2 v2 (1 : Int32) τ) := rfl
def f_X6_firstWrongStatement_2 (i0 : Nat) (i1 : Nat) : Nat → (Int32 → St → Option (Int32 × St))
  | 0 => fun _ _ => none
  | fl + 1 => fun v2 τ => (if (τ i0 1) ≤ v2 then (some ((-1 : Int32), τ)) else (if v2 = 0 then f_X6_firstWrongStatement_26 i0 i1 (f_X6_firstWrongStatement_2 i0 i1 fl) v2 τ else (ob (f_X5_cell i0 (v2 - (1 : Int32)) τ) (fun q7 => if q7 = (59 : Int32) then f_X6_firstWrongStatement_26 i0 i1 (f_X6_firstWrongStatement_2 i0 i1 fl) v2 τ else (f_X6_firstWrongStatement_31 i0 i1 (f_X6_firstWrongStatement_2 i0 i1 fl) v2 (0 : Int32) τ)))))
theorem f_X6_firstWrongStatement_2_s {i0 : Nat} {i1 : Nat} (fl : Nat) {v2 : Int32} {τ : St} : f_X6_firstWrongStatement_2 i0 i1 (fl + 1) v2 τ = (if (τ i0 1) ≤ v2 then (some ((-1 : Int32), τ)) else (if v2 = 0 then f_X6_firstWrongStatement_26 i0 i1 (f_X6_firstWrongStatement_2 i0 i1 fl) v2 τ else (ob (f_X5_cell i0 (v2 - (1 : Int32)) τ) (fun q7 => if q7 = (59 : Int32) then f_X6_firstWrongStatement_26 i0 i1 (f_X6_firstWrongStatement_2 i0 i1 fl) v2 τ else (f_X6_firstWrongStatement_31 i0 i1 (f_X6_firstWrongStatement_2 i0 i1 fl) v2 (0 : Int32) τ))))) := rfl
def f_X6_firstWrongStatement (i0 : Nat) (i1 : Nat) (σ : St) : Option (Int32 × St) := (f_X6_firstWrongStatement_2 i0 i1 fu (0 : Int32) σ)
set_option maxRecDepth 100000 in
set_option maxHeartbeats 4000000 in
theorem t_X6_firstWrongStatement (l : Launch) (G : GT) (hG : Dw G) (i0 : Nat) (i1 : Nat) (hk0 : kd i0 = 2) (hk1 : kd i1 = 3) (σ : St) (o : Int32 × St) (hF : f_X6_firstWrongStatement i0 i1 σ = some o) : Ct l G yX6_firstWrongStatement wsX6_firstWrongStatement 5 123 [.ref (gA G i0), .ref (gA G i1)] σ (some (.int o.1)) o.2 := by
  refine Met.ofW (cc := cX6_firstWrongStatement) (maxL := 4) (ret := (some .int)) (by decide) rfl ?_
  intro p e s m args below meth c s₁ B hml hv
  obtain ⟨rfl, hP, hK⟩ := hv
  have hx := B.exec
  have hb := B.bytes
  have hr := B.returns
  have hts := atoms_spec (ws := wsX6_firstWrongStatement) B.pre
  have hown : s.vm.findClass RX6 = some m.cls := findClass_of_methodNamed B.named
  have hlocks := B.notSynchronized
  have Z : CallFix p m c cX6_firstWrongStatement 4 s _ wsX6_firstWrongStatement RX6 := ⟨hx, hb, hml, hown, hts⟩
  have hS : va_S (AG G) s.heap s.heap [] := va_S.rf
  have inX5 : ∀ w ∈ u_ws RX5 TX5 5, w ∈ wsX6_firstWrongStatement := by decide +kernel
  have w1n : va_Nw (.fieldLinkNest "AlmanacOfTheYearGone$Text" 9 "AlmanacOfTheYearGone$Shelf" "length" "I" "AlmanacOfTheYearGone") s := hK.2 _ (List.mem_of_getElem? (i := 2) rfl)
  have w1 := va_Nw.use (A := [.ref (gA G i0), .ref (gA G i1)].toArray) rfl w1n
  have w2 := hts (.initialized RX5) (by decide +kernel)
  have w3n : va_Nw (.methodLinkNest "AlmanacOfTheYearGone$Text" 15 ⟨"AlmanacOfTheYearGone$Shelf", "cell", "(I)I"⟩ "AlmanacOfTheYearGone") s := hK.2 _ (List.mem_of_getElem? (i := 41) rfl)
  have w3 := va_Nw.use (A := [.ref (gA G i0), .ref (gA G i1)].toArray) rfl w3n
  have w4 := hts (.instanceMethod yX5_cell) (by decide +kernel)
  have w5 := hts (.selects RX5 yX5_cell yX5_cell) (by decide +kernel)
  have hl := lv_entry ([.ref (gA G i0), .ref (gA G i1)]) (n := 4) (Nat.le_of_ble_eq_true rfl)
  rw [lg_entry_eq]
  generalize (lg_sl ([.ref (gA G i0), .ref (gA G i1)]) ++ List.replicate (4 - (lg_sl ([.ref (gA G i0), .ref (gA G i1)])).length) Slot.unset).toArray = ls at hl ⊢
  have hl : lv_has ls 4 [(0, .ref (gA G i0)), (1, .ref (gA G i1))] := hl
  unfold f_X6_firstWrongStatement at hF
  refine lv_iconst (v := 0) hx hb dX6_firstWrongStatement_0 (by decide) ?_
  have J2 : ∀ (fl : Nat) (v2 : Int32) (τ : St) (H : Heap) (locs : List Loc) (hP : Pw G τ H) (hS : va_S (AG G) s.heap H locs) (ls : Array Slot) (hl : lv_has ls 4 [(0, .ref (gA G i0)), (1, .ref (gA G i1)), (2, .int v2)]) (hF : f_X6_firstWrongStatement_2 i0 i1 fl v2 τ = some o), W p l e (headSpec wsX6_firstWrongStatement ({ frames := 5, cells := 0, slots := 0, locals := 123 })).room s m ([.ref (gA G i0), .ref (gA G i1)] : List Value).toArray below meth c H locs 0 0 (MQ below (qR G (some (.int o.1)) o.2) ([.ref (gA G i0), .ref (gA G i1)] : List Value).toArray s 0 0 (AG G)) (F0 m 2 ls []) := by
    intro fl2
    induction fl2 with
    | zero => intro v2 τ H locs hP hS ls hl hF; cases hF
    | succ fl2 ih2 =>
      intro v2 τ H locs hP hS ls hl hF
      rw [f_X6_firstWrongStatement_2_s] at hF
      refine lv_iload_n hx hb dX6_firstWrongStatement_2 rfl (lv_at hl 2 rfl) ?_
      refine lv_aload_n hx hb dX6_firstWrongStatement_3 rfl (lv_at hl 0 rfl) ?_
      refine va_getN (ci := 2) (C := RX5) (T := TX5) (N := 5) (v := .int (τ i0 1)) hx hb hts inX5 hown hK.1 hP i0 (at_2 hk0) rfl 1 (by decide) w1 (fun _ h9 => h9) rfl dX6_firstWrongStatement_4 ?_
      refine lv_icmp_ge (tgt := 53) hx hb dX6_firstWrongStatement_7 (by decide) (fun c1 => ?_) (fun c1 => ?_)
      · have hF := ite_t c1 hF
        refine lv_iconst (v := -1) hx hb dX6_firstWrongStatement_53 (by decide) ?_
        exact e_iS hx hb hr hP hS hlocks dX6_firstWrongStatement_54 hF
      · have hF := ite_f c1 hF
        refine lv_iload_n hx hb dX6_firstWrongStatement_10 rfl (lv_at hl 2 rfl) ?_
        have J31 : ∀ (v2 : Int32) (z0 : Int32) (τ : St) (H : Heap) (locs : List Loc) (hP : Pw G τ H) (hS : va_S (AG G) s.heap H locs) (ls : Array Slot) (hl : lv_has ls 4 [(0, .ref (gA G i0)), (1, .ref (gA G i1)), (2, .int v2)]) (hF : f_X6_firstWrongStatement_31 i0 i1 (f_X6_firstWrongStatement_2 i0 i1 fl2) v2 z0 τ = some o), W p l e (headSpec wsX6_firstWrongStatement ({ frames := 5, cells := 0, slots := 0, locals := 123 })).room s m ([.ref (gA G i0), .ref (gA G i1)] : List Value).toArray below meth c H locs 0 0 (MQ below (qR G (some (.int o.1)) o.2) ([.ref (gA G i0), .ref (gA G i1)] : List Value).toArray s 0 0 (AG G)) (F0 m 31 ls [.int z0]) := by
          intro v2 z0 τ H locs hP hS ls hl hF
          rw [f_X6_firstWrongStatement_31_e] at hF
          refine lv_istore_n (lv' := [(3, .int z0), (0, .ref (gA G i0)), (1, .ref (gA G i1)), (2, .int v2)]) hx hb dX6_firstWrongStatement_31 rfl hl (by decide) rfl (fun ls hl => ?_)
          refine lv_iload_n hx hb dX6_firstWrongStatement_32 rfl (lv_at hl 0 rfl) ?_
          have J47 : ∀ (v2 : Int32) (τ : St) (H : Heap) (locs : List Loc) (hP : Pw G τ H) (hS : va_S (AG G) s.heap H locs) (ls : Array Slot) (hl : lv_has ls 4 [(0, .ref (gA G i0)), (1, .ref (gA G i1)), (2, .int v2)]) (hF : f_X6_firstWrongStatement_47 i0 i1 (f_X6_firstWrongStatement_2 i0 i1 fl2) v2 τ = some o), W p l e (headSpec wsX6_firstWrongStatement ({ frames := 5, cells := 0, slots := 0, locals := 123 })).room s m ([.ref (gA G i0), .ref (gA G i1)] : List Value).toArray below meth c H locs 0 0 (MQ below (qR G (some (.int o.1)) o.2) ([.ref (gA G i0), .ref (gA G i1)] : List Value).toArray s 0 0 (AG G)) (F0 m 47 ls []) := by
            intro v2 τ H locs hP hS ls hl hF
            rw [f_X6_firstWrongStatement_47_e] at hF
            refine lv_iinc (v := (v2 + (1 : Int32))) (lv' := [(2, .int (v2 + (1 : Int32))), (0, .ref (gA G i0)), (1, .ref (gA G i1))]) hx hb dX6_firstWrongStatement_47 hl (k := 2) rfl rfl (by decide) rfl (fun ls hl => ?_)
            refine lv_goto (tgt := 2) hx hb dX6_firstWrongStatement_50 (by decide) ?_
            exact ih2 (v2 + (1 : Int32)) τ _ _ hP hS ls (lv_sub hl [1, 2, 0] rfl) hF
          refine lv_if_eq (tgt := 47) hx hb dX6_firstWrongStatement_33 (by decide) (fun c2 => ?_) (fun c2 => ?_)
          · have hF := ite_t c2 hF
            exact J47 v2 τ _ _ hP hS ls (lv_sub hl [1, 2, 3] rfl) hF
          · have hF := ite_f c2 hF
            refine lv_aload_n hx hb dX6_firstWrongStatement_36 rfl (lv_at hl 1 rfl) ?_
            refine lv_iload_n hx hb dX6_firstWrongStatement_37 rfl (lv_at hl 3 rfl) ?_
            refine lv_aload_n hx hb dX6_firstWrongStatement_38 rfl (lv_at hl 2 rfl) ?_
            obtain ⟨q3, h4, hF⟩ := ob_some hF
            refine k_Sv (As := [.ref (gA G i0), .int v2, .ref (gA G i1)]) (rest := []) Z hK hP hS (t_X6_isTaken l G hG i0 v2 i1 hk0 hk1 τ _ h4) (va_cwS 3 hts gX6_firstWrongStatement_X6_isTaken rfl rfl rfl (by decide +kernel) ⟨Nat.le_of_ble_eq_true rfl, Nat.le_of_ble_eq_true rfl⟩) rfl hl.1 rfl (Nat.le_of_ble_eq_true rfl) ⟨Nat.zero_le _, Nat.zero_le _⟩ dX6_firstWrongStatement_39 (fun H locs hP hS => ?_)
            refine lv_if_ne (tgt := 47) hx hb dX6_firstWrongStatement_42 (by decide) (fun c5 => ?_) (fun c5 => ?_)
            · have hF := ite_t (b2i_n0 c5) hF
              exact J47 v2 q3.2 _ _ hP hS ls (lv_sub hl [1, 2, 3] rfl) hF
            · have hF := ite_f (b2i_e0 c5) hF
              refine lv_iload_n hx hb dX6_firstWrongStatement_45 rfl (lv_at hl 3 rfl) ?_
              exact e_iS hx hb hr hP hS hlocks dX6_firstWrongStatement_46 hF
        have J26 : ∀ (v2 : Int32) (τ : St) (H : Heap) (locs : List Loc) (hP : Pw G τ H) (hS : va_S (AG G) s.heap H locs) (ls : Array Slot) (hl : lv_has ls 4 [(0, .ref (gA G i0)), (1, .ref (gA G i1)), (2, .int v2)]) (hF : f_X6_firstWrongStatement_26 i0 i1 (f_X6_firstWrongStatement_2 i0 i1 fl2) v2 τ = some o), W p l e (headSpec wsX6_firstWrongStatement ({ frames := 5, cells := 0, slots := 0, locals := 123 })).room s m ([.ref (gA G i0), .ref (gA G i1)] : List Value).toArray below meth c H locs 0 0 (MQ below (qR G (some (.int o.1)) o.2) ([.ref (gA G i0), .ref (gA G i1)] : List Value).toArray s 0 0 (AG G)) (F0 m 26 ls []) := by
          intro v2 τ H locs hP hS ls hl hF
          rw [f_X6_firstWrongStatement_26_e] at hF
          refine lv_iconst (v := 1) hx hb dX6_firstWrongStatement_26 (by decide) ?_
          refine lv_goto (tgt := 31) hx hb dX6_firstWrongStatement_27 (by decide) ?_
          exact J31 v2 (1 : Int32) τ _ _ hP hS ls (lv_sub hl [0, 1, 2] rfl) hF
        refine lv_if_eq (tgt := 26) hx hb dX6_firstWrongStatement_11 (by decide) (fun c6 => ?_) (fun c6 => ?_)
        · have hF := ite_t c6 hF
          exact J26 v2 τ _ _ hP hS ls (lv_sub hl [0, 1, 2] rfl) hF
        · have hF := ite_f c6 hF
          refine lv_aload_n hx hb dX6_firstWrongStatement_14 rfl (lv_at hl 0 rfl) ?_
          refine lv_iload_n hx hb dX6_firstWrongStatement_15 rfl (lv_at hl 2 rfl) ?_
          refine lv_iconst (v := 1) hx hb dX6_firstWrongStatement_16 (by decide) ?_
          refine lv_isub hx hb dX6_firstWrongStatement_17 ?_
          obtain ⟨q7, h8, hF⟩ := ob_some hF
          refine k_VNv (As := [.int (v2 - (1 : Int32))]) (rest := []) Z hK hP hS (t_X5_cell l G hG i0 (v2 - (1 : Int32)) hk0 τ _ h8) ⟨va_cnB 1 hts gX6_firstWrongStatement_X5_cell_n15 rfl rfl rfl w3n w2 (by decide +kernel) ⟨Nat.le_of_ble_eq_true rfl, Nat.le_of_ble_eq_true rfl⟩, w4, w5⟩ (at_2 hk0) rfl rfl hl.1 rfl (Nat.le_of_ble_eq_true rfl) ⟨Nat.zero_le _, Nat.zero_le _⟩ dX6_firstWrongStatement_18 (fun H locs hP hS => ?_)
          refine lv_bipush (v := 59) hx hb dX6_firstWrongStatement_21 (by decide) ?_
          refine lv_icmp_ne (tgt := 30) hx hb dX6_firstWrongStatement_23 (by decide) (fun c9 => ?_) (fun c9 => ?_)
          · have hF := ite_f c9 hF
            refine lv_iconst (v := 0) hx hb dX6_firstWrongStatement_30 (by decide) ?_
            exact J31 v2 (0 : Int32) τ _ _ hP hS ls (lv_sub hl [0, 1, 2] rfl) hF
          · have hF := ite_t c9 hF
            exact J26 v2 τ _ _ hP hS ls (lv_sub hl [0, 1, 2] rfl) hF
  refine lv_istore_n (lv' := [(2, .int (0 : Int32)), (0, .ref (gA G i0)), (1, .ref (gA G i1))]) hx hb dX6_firstWrongStatement_1 rfl hl (by decide) rfl (fun ls hl => ?_)
  exact J2 fu (0 : Int32) σ _ _ hP hS ls (lv_sub hl [1, 2, 0] rfl) hF
def f_X8_isWithin (x0 : Int32) (x1 : Int32) : Bool := (if x0 < 0 then false else (if x1 < x0 then false else true))
set_option maxRecDepth 100000 in
set_option maxHeartbeats 4000000 in
theorem t_X8_isWithin (l : Launch) (G : GT) (hG : Dw G) (x0 : Int32) (x1 : Int32) (σ : St) : Ct l G yX8_isWithin wsX8_isWithin 0 0 [.int x0, .int x1] σ (some (.int (b2i (f_X8_isWithin x0 x1)))) σ := by
  obtain ⟨o, hF⟩ : ∃ o, f_X8_isWithin x0 x1 = o := ⟨_, rfl⟩
  rw [hF]
  refine Met.ofW (cc := cX8_isWithin) (maxL := 2) (ret := (some .boolean)) (by decide) rfl ?_
  intro p e s m args below meth c s₁ B hml hv
  obtain ⟨rfl, hP, hK⟩ := hv
  have hx := B.exec
  have hb := B.bytes
  have hr := B.returns
  have hts := atoms_spec (ws := wsX8_isWithin) B.pre
  have hown : s.vm.findClass RX8 = some m.cls := findClass_of_methodNamed B.named
  have hlocks := B.notSynchronized
  have Z : CallFix p m c cX8_isWithin 2 s _ wsX8_isWithin RX8 := ⟨hx, hb, hml, hown, hts⟩
  have hS : va_S (AG G) s.heap s.heap [] := va_S.rf
  have hl := lv_entry ([.int x0, .int x1]) (n := 2) (Nat.le_of_ble_eq_true rfl)
  rw [lg_entry_eq]
  generalize (lg_sl ([.int x0, .int x1]) ++ List.replicate (2 - (lg_sl ([.int x0, .int x1])).length) Slot.unset).toArray = ls at hl ⊢
  have hl : lv_has ls 2 [(0, .int x0), (1, .int x1)] := hl
  unfold f_X8_isWithin at hF
  refine lv_iload_n hx hb dX8_isWithin_0 rfl (lv_at hl 0 rfl) ?_
  refine lv_if_lt (tgt := 13) hx hb dX8_isWithin_1 (by decide) (fun c1 => ?_) (fun c1 => ?_)
  · have hF := ite_t c1 hF
    refine lv_iconst (v := 0) hx hb dX8_isWithin_13 (by decide) ?_
    exact e_zT (b := false) hx hb hr hP hS hlocks dX8_isWithin_14 rfl hF
  · have hF := ite_f c1 hF
    refine lv_iload_n hx hb dX8_isWithin_4 rfl (lv_at hl 0 rfl) ?_
    refine lv_iload_n hx hb dX8_isWithin_5 rfl (lv_at hl 1 rfl) ?_
    refine lv_icmp_gt (tgt := 13) hx hb dX8_isWithin_6 (by decide) (fun c2 => ?_) (fun c2 => ?_)
    · have hF := ite_t c2 hF
      refine lv_iconst (v := 0) hx hb dX8_isWithin_13 (by decide) ?_
      exact e_zT (b := false) hx hb hr hP hS hlocks dX8_isWithin_14 rfl hF
    · have hF := ite_f c2 hF
      refine lv_iconst (v := 1) hx hb dX8_isWithin_9 (by decide) ?_
      refine lv_goto (tgt := 14) hx hb dX8_isWithin_10 (by decide) ?_
      exact e_zT (b := true) hx hb hr hP hS hlocks dX8_isWithin_14 rfl hF
def f_X2_isWhole_13 (i0 : Nat) (i1 : Nat) (σ : St) : Nat → (Int32 → Option Bool)
  | 0 => fun _ => none
  | fl + 1 => fun v2 => (if (σ i0 1) ≤ v2 then (some true) else (ob (f_X5_cell i0 v2 σ) (fun q3 => ob (f_X7_deedAt i1 q3 σ) (fun q5 => oc q5 ((some false)) (fun i7 => (ob (f_X5_cell i0 (v2 + (1 : Int32)) σ) (fun q8 => if (f_X8_isWithin q8 (364 : Int32)) = true then ((f_X2_isWhole_13 i0 i1 σ fl) (v2 + (2 : Int32))) else (some false))))))))
theorem f_X2_isWhole_13_s {i0 : Nat} {i1 : Nat} {σ : St} (fl : Nat) {v2 : Int32} : f_X2_isWhole_13 i0 i1 σ (fl + 1) v2 = (if (σ i0 1) ≤ v2 then (some true) else (ob (f_X5_cell i0 v2 σ) (fun q3 => ob (f_X7_deedAt i1 q3 σ) (fun q5 => oc q5 ((some false)) (fun i7 => (ob (f_X5_cell i0 (v2 + (1 : Int32)) σ) (fun q8 => if (f_X8_isWithin q8 (364 : Int32)) = true then ((f_X2_isWhole_13 i0 i1 σ fl) (v2 + (2 : Int32))) else (some false)))))))) := rfl
def f_X2_isWhole (i0 : Nat) (i1 : Nat) (σ : St) : Option Bool := (if ((σ i0 1) - (σ i0 1) / (2 : Int32) * (2 : Int32)) = 0 then (f_X2_isWhole_13 i0 i1 σ fu (0 : Int32)) else (some false))
set_option maxRecDepth 100000 in
set_option maxHeartbeats 4000000 in
theorem t_X2_isWhole (l : Launch) (G : GT) (hG : Dw G) (i0 : Nat) (i1 : Nat) (hk0 : kd i0 = 2) (hk1 : kd i1 = 3) (σ : St) (o : Bool) (hF : f_X2_isWhole i0 i1 σ = some o) : Ct l G yX2_isWhole wsX2_isWhole 1 21 [.ref (gA G i0), .ref (gA G i1)] σ (some (.int (b2i o))) σ := by
  refine Met.ofW (cc := cX2_isWhole) (maxL := 3) (ret := (some .boolean)) (by decide) rfl ?_
  intro p e s m args below meth c s₁ B hml hv
  obtain ⟨rfl, hP, hK⟩ := hv
  have hx := B.exec
  have hb := B.bytes
  have hr := B.returns
  have hts := atoms_spec (ws := wsX2_isWhole) B.pre
  have hown : s.vm.findClass RX2 = some m.cls := findClass_of_methodNamed B.named
  have hlocks := B.notSynchronized
  have Z : CallFix p m c cX2_isWhole 3 s _ wsX2_isWhole RX2 := ⟨hx, hb, hml, hown, hts⟩
  have hS : va_S (AG G) s.heap s.heap [] := va_S.rf
  have inX5 : ∀ w ∈ u_ws RX5 TX5 5, w ∈ wsX2_isWhole := by decide +kernel
  have w1n : va_Nw (.fieldLinkNest "AlmanacOfTheYearGone$Diary" 9 "AlmanacOfTheYearGone$Shelf" "length" "I" "AlmanacOfTheYearGone") s := hK.2 _ (List.mem_of_getElem? (i := 1) rfl)
  have w1 := va_Nw.use (A := [.ref (gA G i0), .ref (gA G i1)].toArray) rfl w1n
  have w2 := hts (.initialized RX5) (by decide +kernel)
  have w3n : va_Nw (.methodLinkNest "AlmanacOfTheYearGone$Diary" 15 ⟨"AlmanacOfTheYearGone$Shelf", "cell", "(I)I"⟩ "AlmanacOfTheYearGone") s := hK.2 _ (List.mem_of_getElem? (i := 83) rfl)
  have w3 := va_Nw.use (A := [.ref (gA G i0), .ref (gA G i1)].toArray) rfl w3n
  have w4 := hts (.instanceMethod yX5_cell) (by decide +kernel)
  have w5 := hts (.selects RX5 yX5_cell yX5_cell) (by decide +kernel)
  have w6 := hts (.initialized RX7) (by decide +kernel)
  have w7n : va_Nw (.methodLinkNest "AlmanacOfTheYearGone$Diary" 19 ⟨"AlmanacOfTheYearGone$Year", "deedAt", "(I)LAlmanacOfTheYearGone$Deed;"⟩ "AlmanacOfTheYearGone") s := hK.2 _ (List.mem_of_getElem? (i := 84) rfl)
  have w7 := va_Nw.use (A := [.ref (gA G i0), .ref (gA G i1)].toArray) rfl w7n
  have w8 := hts (.instanceMethod yX7_deedAt) (by decide +kernel)
  have w9 := hts (.selects RX7 yX7_deedAt yX7_deedAt) (by decide +kernel)
  have w10 := hts (.initialized RX8) (by decide +kernel)
  have w11n : va_Nw (.methodLinkNest "AlmanacOfTheYearGone$Diary" 25 ⟨"AlmanacOfTheYearGone", "isWithin", "(II)Z"⟩ "AlmanacOfTheYearGone") s := hK.2 _ (List.mem_of_getElem? (i := 85) rfl)
  have w11 := va_Nw.use (A := [.ref (gA G i0), .ref (gA G i1)].toArray) rfl w11n
  have w12 := hts (.static yX8_isWithin) (by decide +kernel)
  have hl := lv_entry ([.ref (gA G i0), .ref (gA G i1)]) (n := 3) (Nat.le_of_ble_eq_true rfl)
  rw [lg_entry_eq]
  generalize (lg_sl ([.ref (gA G i0), .ref (gA G i1)]) ++ List.replicate (3 - (lg_sl ([.ref (gA G i0), .ref (gA G i1)])).length) Slot.unset).toArray = ls at hl ⊢
  have hl : lv_has ls 3 [(0, .ref (gA G i0)), (1, .ref (gA G i1))] := hl
  unfold f_X2_isWhole at hF
  refine lv_aload_n hx hb dX2_isWhole_0 rfl (lv_at hl 0 rfl) ?_
  refine va_getN (ci := 2) (C := RX5) (T := TX5) (N := 5) (v := .int (σ i0 1)) hx hb hts inX5 hown hK.1 hP i0 (at_2 hk0) rfl 1 (by decide) w1 (fun _ h9 => h9) rfl dX2_isWhole_1 ?_
  refine lv_iconst (v := 2) hx hb dX2_isWhole_4 (by decide) ?_
  refine lv_irem hx hb dX2_isWhole_5 (by decide) ?_
  refine lv_if_eq (tgt := 11) hx hb dX2_isWhole_6 (by decide) (fun c1 => ?_) (fun c1 => ?_)
  · have hF := ite_t c1 hF
    refine lv_iconst (v := 0) hx hb dX2_isWhole_11 (by decide) ?_
    have J13 : ∀ (fl : Nat) (v2 : Int32) (H : Heap) (locs : List Loc) (hP : Pw G σ H) (hS : va_S (AG G) s.heap H locs) (ls : Array Slot) (hl : lv_has ls 3 [(0, .ref (gA G i0)), (1, .ref (gA G i1)), (2, .int v2)]) (hF : f_X2_isWhole_13 i0 i1 σ fl v2 = some o), W p l e (headSpec wsX2_isWhole ({ frames := 1, cells := 0, slots := 0, locals := 21 })).room s m ([.ref (gA G i0), .ref (gA G i1)] : List Value).toArray below meth c H locs 0 0 (MQ below (qR G (some (.int (b2i o))) σ) ([.ref (gA G i0), .ref (gA G i1)] : List Value).toArray s 0 0 (AG G)) (F0 m 13 ls []) := by
      intro fl13
      induction fl13 with
      | zero => intro v2 H locs hP hS ls hl hF; cases hF
      | succ fl13 ih13 =>
        intro v2 H locs hP hS ls hl hF
        rw [f_X2_isWhole_13_s] at hF
        refine lv_iload_n hx hb dX2_isWhole_13 rfl (lv_at hl 2 rfl) ?_
        refine lv_aload_n hx hb dX2_isWhole_14 rfl (lv_at hl 0 rfl) ?_
        refine va_getN (ci := 2) (C := RX5) (T := TX5) (N := 5) (v := .int (σ i0 1)) hx hb hts inX5 hown hK.1 hP i0 (at_2 hk0) rfl 1 (by decide) w1 (fun _ h9 => h9) rfl dX2_isWhole_15 ?_
        refine lv_icmp_ge (tgt := 57) hx hb dX2_isWhole_18 (by decide) (fun c2 => ?_) (fun c2 => ?_)
        · have hF := ite_t c2 hF
          refine lv_iconst (v := 1) hx hb dX2_isWhole_57 (by decide) ?_
          exact e_zP (b := true) hx hb hr hP hS hlocks dX2_isWhole_58 rfl hF
        · have hF := ite_f c2 hF
          refine lv_aload_n hx hb dX2_isWhole_21 rfl (lv_at hl 1 rfl) ?_
          refine lv_aload_n hx hb dX2_isWhole_22 rfl (lv_at hl 0 rfl) ?_
          refine lv_iload_n hx hb dX2_isWhole_23 rfl (lv_at hl 2 rfl) ?_
          obtain ⟨q3, h4, hF⟩ := ob_some hF
          refine k_VNv (As := [.int v2]) (rest := [.ref (gA G i1)]) Z hK hP hS (t_X5_cell l G hG i0 v2 hk0 σ _ h4) ⟨va_cnB 1 hts gX2_isWhole_X5_cell_n15 rfl rfl rfl w3n w2 (by decide +kernel) ⟨Nat.le_of_ble_eq_true rfl, Nat.le_of_ble_eq_true rfl⟩, w4, w5⟩ (at_2 hk0) rfl rfl hl.1 rfl (Nat.le_of_ble_eq_true rfl) ⟨Nat.zero_le _, Nat.zero_le _⟩ dX2_isWhole_24 (fun H locs hP hS => ?_)
          obtain ⟨q5, h6, hF⟩ := ob_some hF
          refine k_VNv (As := [.int q3]) (rest := []) Z hK hP hS (t_X7_deedAt l G hG i1 q3 hk1 σ _ h6) ⟨va_cnB 1 hts gX2_isWhole_X7_deedAt_n19 rfl rfl rfl w7n w6 (by decide +kernel) ⟨Nat.le_of_ble_eq_true rfl, Nat.le_of_ble_eq_true rfl⟩, w8, w9⟩ (at_3 hk1) rfl rfl hl.1 rfl (Nat.le_of_ble_eq_true rfl) ⟨Nat.zero_le _, Nat.zero_le _⟩ dX2_isWhole_27 (fun H locs hP hS => ?_)
          rcases q5 with _ | i7
          · have hF := oc_n hF
            refine W.eq (g2 := F0 m 30 ls [.null]) rfl ?_
            refine lv_ifnullN (tgt := 49) hx hb dX2_isWhole_30 (by decide) ?_
            refine lv_iconst (v := 0) hx hb dX2_isWhole_49 (by decide) ?_
            exact e_zP (b := false) hx hb hr hP hS hlocks dX2_isWhole_50 rfl hF
          · have hF := oc_s hF
            have ki7 : kd i7 = 1 := q_X7_deedAt hk1 h6
            refine W.eq (g2 := F0 m 30 ls [.ref (gA G i7)]) rfl ?_
            refine lv_ifnull hx hb dX2_isWhole_30 ?_
            refine lv_aload_n hx hb dX2_isWhole_33 rfl (lv_at hl 0 rfl) ?_
            refine lv_iload_n hx hb dX2_isWhole_34 rfl (lv_at hl 2 rfl) ?_
            refine lv_iconst (v := 1) hx hb dX2_isWhole_35 (by decide) ?_
            refine lv_iadd hx hb dX2_isWhole_36 ?_
            obtain ⟨q8, h9, hF⟩ := ob_some hF
            refine k_VNv (As := [.int (v2 + (1 : Int32))]) (rest := []) Z hK hP hS (t_X5_cell l G hG i0 (v2 + (1 : Int32)) hk0 σ _ h9) ⟨va_cnB 1 hts gX2_isWhole_X5_cell_n15 rfl rfl rfl w3n w2 (by decide +kernel) ⟨Nat.le_of_ble_eq_true rfl, Nat.le_of_ble_eq_true rfl⟩, w4, w5⟩ (at_2 hk0) rfl rfl hl.1 rfl (Nat.le_of_ble_eq_true rfl) ⟨Nat.zero_le _, Nat.zero_le _⟩ dX2_isWhole_37 (fun H locs hP hS => ?_)
            refine lv_sipush (v := 364) hx hb dX2_isWhole_40 (by decide) ?_
            refine k_SNv (As := [.int q8, .int (364 : Int32)]) (rest := []) Z hK hP hS (t_X8_isWithin l G hG q8 (364 : Int32) σ) ⟨va_cnB 2 hts gX2_isWhole_X8_isWithin_n25 rfl rfl rfl w11n w10 (by decide +kernel) ⟨Nat.le_of_ble_eq_true rfl, Nat.le_of_ble_eq_true rfl⟩, w12, trivial⟩ rfl hl.1 rfl (Nat.le_of_ble_eq_true rfl) ⟨Nat.zero_le _, Nat.zero_le _⟩ dX2_isWhole_43 (fun H locs hP hS => ?_)
            refine lv_if_ne (tgt := 51) hx hb dX2_isWhole_46 (by decide) (fun c10 => ?_) (fun c10 => ?_)
            · have hF := ite_t (b2i_n0 c10) hF
              refine lv_iinc (v := (v2 + (2 : Int32))) (lv' := [(2, .int (v2 + (2 : Int32))), (0, .ref (gA G i0)), (1, .ref (gA G i1))]) hx hb dX2_isWhole_51 hl (k := 2) rfl rfl (by decide) rfl (fun ls hl => ?_)
              refine lv_goto (tgt := 13) hx hb dX2_isWhole_54 (by decide) ?_
              exact ih13 (v2 + (2 : Int32)) _ _ hP hS ls (lv_sub hl [1, 2, 0] rfl) hF
            · have hF := ite_f (b2i_e0 c10) hF
              refine lv_iconst (v := 0) hx hb dX2_isWhole_49 (by decide) ?_
              exact e_zP (b := false) hx hb hr hP hS hlocks dX2_isWhole_50 rfl hF
    refine lv_istore_n (lv' := [(2, .int (0 : Int32)), (0, .ref (gA G i0)), (1, .ref (gA G i1))]) hx hb dX2_isWhole_12 rfl hl (by decide) rfl (fun ls hl => ?_)
    exact J13 fu (0 : Int32) _ _ hP hS ls (lv_sub hl [1, 2, 0] rfl) hF
  · have hF := ite_f c1 hF
    refine lv_iconst (v := 0) hx hb dX2_isWhole_9 (by decide) ?_
    exact e_zP (b := false) hx hb hr hP hS hlocks dX2_isWhole_10 rfl hF
def f_X2_timesTold_39 (i0 : Nat) (x1 : Int32) (x2 : Int32) (σ : St) (rec5 : Int32 → Int32 → Option Int32) (v3 : Int32) (v4 : Int32) : Option Int32 := (rec5 v3 (v4 + (2 : Int32)))
theorem f_X2_timesTold_39_e {i0 : Nat} {x1 : Int32} {x2 : Int32} {σ : St} {rec5 : Int32 → Int32 → Option Int32} {v3 : Int32} {v4 : Int32} : f_X2_timesTold_39 i0 x1 x2 σ rec5 v3 v4 = (rec5 v3 (v4 + (2 : Int32))) := rfl
def f_X2_timesTold_5 (i0 : Nat) (x1 : Int32) (x2 : Int32) (σ : St) : Nat → (Int32 → Int32 → Option Int32)
  | 0 => fun _ _ => none
  | fl + 1 => fun v3 v4 => (if (σ i0 1) ≤ v4 then (some v3) else (ob (f_X5_cell i0 v4 σ) (fun q2 => if q2 = x1 then (ob (f_X5_cell i0 (v4 + (1 : Int32)) σ) (fun q5 => if q5 = x2 then (f_X2_timesTold_39 i0 x1 x2 σ (f_X2_timesTold_5 i0 x1 x2 σ fl) (v3 + (1 : Int32)) v4) else f_X2_timesTold_39 i0 x1 x2 σ (f_X2_timesTold_5 i0 x1 x2 σ fl) v3 v4)) else f_X2_timesTold_39 i0 x1 x2 σ (f_X2_timesTold_5 i0 x1 x2 σ fl) v3 v4)))
theorem f_X2_timesTold_5_s {i0 : Nat} {x1 : Int32} {x2 : Int32} {σ : St} (fl : Nat) {v3 : Int32} {v4 : Int32} : f_X2_timesTold_5 i0 x1 x2 σ (fl + 1) v3 v4 = (if (σ i0 1) ≤ v4 then (some v3) else (ob (f_X5_cell i0 v4 σ) (fun q2 => if q2 = x1 then (ob (f_X5_cell i0 (v4 + (1 : Int32)) σ) (fun q5 => if q5 = x2 then (f_X2_timesTold_39 i0 x1 x2 σ (f_X2_timesTold_5 i0 x1 x2 σ fl) (v3 + (1 : Int32)) v4) else f_X2_timesTold_39 i0 x1 x2 σ (f_X2_timesTold_5 i0 x1 x2 σ fl) v3 v4)) else f_X2_timesTold_39 i0 x1 x2 σ (f_X2_timesTold_5 i0 x1 x2 σ fl) v3 v4))) := rfl
def f_X2_timesTold (i0 : Nat) (x1 : Int32) (x2 : Int32) (σ : St) : Option Int32 := (f_X2_timesTold_5 i0 x1 x2 σ fu (0 : Int32) (0 : Int32))
set_option maxRecDepth 100000 in
set_option maxHeartbeats 4000000 in
theorem t_X2_timesTold (l : Launch) (G : GT) (hG : Dw G) (i0 : Nat) (x1 : Int32) (x2 : Int32) (hk0 : kd i0 = 2) (σ : St) (o : Int32) (hF : f_X2_timesTold i0 x1 x2 σ = some o) : Ct l G yX2_timesTold wsX2_timesTold 1 21 [.ref (gA G i0), .int x1, .int x2] σ (some (.int o)) σ := by
  refine Met.ofW (cc := cX2_timesTold) (maxL := 5) (ret := (some .int)) (by decide) rfl ?_
  intro p e s m args below meth c s₁ B hml hv
  obtain ⟨rfl, hP, hK⟩ := hv
  have hx := B.exec
  have hb := B.bytes
  have hr := B.returns
  have hts := atoms_spec (ws := wsX2_timesTold) B.pre
  have hown : s.vm.findClass RX2 = some m.cls := findClass_of_methodNamed B.named
  have hlocks := B.notSynchronized
  have Z : CallFix p m c cX2_timesTold 5 s _ wsX2_timesTold RX2 := ⟨hx, hb, hml, hown, hts⟩
  have hS : va_S (AG G) s.heap s.heap [] := va_S.rf
  have inX5 : ∀ w ∈ u_ws RX5 TX5 5, w ∈ wsX2_timesTold := by decide +kernel
  have w1n : va_Nw (.fieldLinkNest "AlmanacOfTheYearGone$Diary" 9 "AlmanacOfTheYearGone$Shelf" "length" "I" "AlmanacOfTheYearGone") s := hK.2 _ (List.mem_of_getElem? (i := 1) rfl)
  have w1 := va_Nw.use (A := [.ref (gA G i0), .int x1, .int x2].toArray) rfl w1n
  have w2 := hts (.initialized RX5) (by decide +kernel)
  have w3n : va_Nw (.methodLinkNest "AlmanacOfTheYearGone$Diary" 15 ⟨"AlmanacOfTheYearGone$Shelf", "cell", "(I)I"⟩ "AlmanacOfTheYearGone") s := hK.2 _ (List.mem_of_getElem? (i := 83) rfl)
  have w3 := va_Nw.use (A := [.ref (gA G i0), .int x1, .int x2].toArray) rfl w3n
  have w4 := hts (.instanceMethod yX5_cell) (by decide +kernel)
  have w5 := hts (.selects RX5 yX5_cell yX5_cell) (by decide +kernel)
  have hl := lv_entry ([.ref (gA G i0), .int x1, .int x2]) (n := 5) (Nat.le_of_ble_eq_true rfl)
  rw [lg_entry_eq]
  generalize (lg_sl ([.ref (gA G i0), .int x1, .int x2]) ++ List.replicate (5 - (lg_sl ([.ref (gA G i0), .int x1, .int x2])).length) Slot.unset).toArray = ls at hl ⊢
  have hl : lv_has ls 5 [(0, .ref (gA G i0)), (1, .int x1), (2, .int x2)] := hl
  unfold f_X2_timesTold at hF
  refine lv_iconst (v := 0) hx hb dX2_timesTold_0 (by decide) ?_
  refine lv_istore_n (lv' := [(3, .int (0 : Int32)), (0, .ref (gA G i0)), (1, .int x1), (2, .int x2)]) hx hb dX2_timesTold_1 rfl hl (by decide) rfl (fun ls hl => ?_)
  refine lv_iconst (v := 0) hx hb dX2_timesTold_2 (by decide) ?_
  have J5 : ∀ (fl : Nat) (v3 : Int32) (v4 : Int32) (H : Heap) (locs : List Loc) (hP : Pw G σ H) (hS : va_S (AG G) s.heap H locs) (ls : Array Slot) (hl : lv_has ls 5 [(0, .ref (gA G i0)), (1, .int x1), (2, .int x2), (3, .int v3), (4, .int v4)]) (hF : f_X2_timesTold_5 i0 x1 x2 σ fl v3 v4 = some o), W p l e (headSpec wsX2_timesTold ({ frames := 1, cells := 0, slots := 0, locals := 21 })).room s m ([.ref (gA G i0), .int x1, .int x2] : List Value).toArray below meth c H locs 0 0 (MQ below (qR G (some (.int o)) σ) ([.ref (gA G i0), .int x1, .int x2] : List Value).toArray s 0 0 (AG G)) (F0 m 5 ls []) := by
    intro fl5
    induction fl5 with
    | zero => intro v3 v4 H locs hP hS ls hl hF; cases hF
    | succ fl5 ih5 =>
      intro v3 v4 H locs hP hS ls hl hF
      rw [f_X2_timesTold_5_s] at hF
      refine lv_iload hx hb dX2_timesTold_5 (lv_at hl 4 rfl) ?_
      refine lv_aload_n hx hb dX2_timesTold_7 rfl (lv_at hl 0 rfl) ?_
      refine va_getN (ci := 2) (C := RX5) (T := TX5) (N := 5) (v := .int (σ i0 1)) hx hb hts inX5 hown hK.1 hP i0 (at_2 hk0) rfl 1 (by decide) w1 (fun _ h9 => h9) rfl dX2_timesTold_8 ?_
      refine lv_icmp_ge (tgt := 45) hx hb dX2_timesTold_11 (by decide) (fun c1 => ?_) (fun c1 => ?_)
      · have hF := ite_t c1 hF
        refine lv_iload_n hx hb dX2_timesTold_45 rfl (lv_at hl 3 rfl) ?_
        exact e_iP hx hb hr hP hS hlocks dX2_timesTold_46 hF
      · have hF := ite_f c1 hF
        refine lv_aload_n hx hb dX2_timesTold_14 rfl (lv_at hl 0 rfl) ?_
        refine lv_iload hx hb dX2_timesTold_15 (lv_at hl 4 rfl) ?_
        obtain ⟨q2, h3, hF⟩ := ob_some hF
        refine k_VNv (As := [.int v4]) (rest := []) Z hK hP hS (t_X5_cell l G hG i0 v4 hk0 σ _ h3) ⟨va_cnB 1 hts gX2_timesTold_X5_cell_n15 rfl rfl rfl w3n w2 (by decide +kernel) ⟨Nat.le_of_ble_eq_true rfl, Nat.le_of_ble_eq_true rfl⟩, w4, w5⟩ (at_2 hk0) rfl rfl hl.1 rfl (Nat.le_of_ble_eq_true rfl) ⟨Nat.zero_le _, Nat.zero_le _⟩ dX2_timesTold_17 (fun H locs hP hS => ?_)
        refine lv_iload_n hx hb dX2_timesTold_20 rfl (lv_at hl 1 rfl) ?_
        have J39 : ∀ (v3 : Int32) (v4 : Int32) (H : Heap) (locs : List Loc) (hP : Pw G σ H) (hS : va_S (AG G) s.heap H locs) (ls : Array Slot) (hl : lv_has ls 5 [(0, .ref (gA G i0)), (1, .int x1), (2, .int x2), (3, .int v3), (4, .int v4)]) (hF : f_X2_timesTold_39 i0 x1 x2 σ (f_X2_timesTold_5 i0 x1 x2 σ fl5) v3 v4 = some o), W p l e (headSpec wsX2_timesTold ({ frames := 1, cells := 0, slots := 0, locals := 21 })).room s m ([.ref (gA G i0), .int x1, .int x2] : List Value).toArray below meth c H locs 0 0 (MQ below (qR G (some (.int o)) σ) ([.ref (gA G i0), .int x1, .int x2] : List Value).toArray s 0 0 (AG G)) (F0 m 39 ls []) := by
          intro v3 v4 H locs hP hS ls hl hF
          rw [f_X2_timesTold_39_e] at hF
          refine lv_iinc (v := (v4 + (2 : Int32))) (lv' := [(4, .int (v4 + (2 : Int32))), (0, .ref (gA G i0)), (1, .int x1), (2, .int x2), (3, .int v3)]) hx hb dX2_timesTold_39 hl (k := 4) rfl rfl (by decide) rfl (fun ls hl => ?_)
          refine lv_goto (tgt := 5) hx hb dX2_timesTold_42 (by decide) ?_
          exact ih5 v3 (v4 + (2 : Int32)) _ _ hP hS ls (lv_sub hl [1, 2, 3, 4, 0] rfl) hF
        refine lv_icmp_ne (tgt := 39) hx hb dX2_timesTold_21 (by decide) (fun c4 => ?_) (fun c4 => ?_)
        · have hF := ite_f c4 hF
          exact J39 v3 v4 _ _ hP hS ls (lv_sub hl [0, 1, 2, 3, 4] rfl) hF
        · have hF := ite_t c4 hF
          refine lv_aload_n hx hb dX2_timesTold_24 rfl (lv_at hl 0 rfl) ?_
          refine lv_iload hx hb dX2_timesTold_25 (lv_at hl 4 rfl) ?_
          refine lv_iconst (v := 1) hx hb dX2_timesTold_27 (by decide) ?_
          refine lv_iadd hx hb dX2_timesTold_28 ?_
          obtain ⟨q5, h6, hF⟩ := ob_some hF
          refine k_VNv (As := [.int (v4 + (1 : Int32))]) (rest := []) Z hK hP hS (t_X5_cell l G hG i0 (v4 + (1 : Int32)) hk0 σ _ h6) ⟨va_cnB 1 hts gX2_timesTold_X5_cell_n15 rfl rfl rfl w3n w2 (by decide +kernel) ⟨Nat.le_of_ble_eq_true rfl, Nat.le_of_ble_eq_true rfl⟩, w4, w5⟩ (at_2 hk0) rfl rfl hl.1 rfl (Nat.le_of_ble_eq_true rfl) ⟨Nat.zero_le _, Nat.zero_le _⟩ dX2_timesTold_29 (fun H locs hP hS => ?_)
          refine lv_iload_n hx hb dX2_timesTold_32 rfl (lv_at hl 2 rfl) ?_
          refine lv_icmp_ne (tgt := 39) hx hb dX2_timesTold_33 (by decide) (fun c7 => ?_) (fun c7 => ?_)
          · have hF := ite_f c7 hF
            exact J39 v3 v4 _ _ hP hS ls (lv_sub hl [0, 1, 2, 3, 4] rfl) hF
          · have hF := ite_t c7 hF
            refine lv_iinc (v := (v3 + (1 : Int32))) (lv' := [(3, .int (v3 + (1 : Int32))), (0, .ref (gA G i0)), (1, .int x1), (2, .int x2), (4, .int v4)]) hx hb dX2_timesTold_36 hl (k := 3) rfl rfl (by decide) rfl (fun ls hl => ?_)
            exact J39 (v3 + (1 : Int32)) v4 _ _ hP hS ls (lv_sub hl [1, 2, 3, 0, 4] rfl) hF
  refine lv_istore (lv' := [(4, .int (0 : Int32)), (3, .int (0 : Int32)), (0, .ref (gA G i0)), (1, .int x1), (2, .int x2)]) hx hb dX2_timesTold_3 hl (by decide) rfl (fun ls hl => ?_)
  exact J5 fu (0 : Int32) (0 : Int32) _ _ hP hS ls (lv_sub hl [2, 3, 4, 1, 0] rfl) hF
def f_X2_dayToldMost_79 (i0 : Nat) (x1 : Int32) (σ : St) (rec8 : Int32 → Int32 → Int32 → Option Int32) (v2 : Int32) (v3 : Int32) (v4 : Int32) : Option Int32 := (rec8 v2 v3 (v4 + (2 : Int32)))
theorem f_X2_dayToldMost_79_e {i0 : Nat} {x1 : Int32} {σ : St} {rec8 : Int32 → Int32 → Int32 → Option Int32} {v2 : Int32} {v3 : Int32} {v4 : Int32} : f_X2_dayToldMost_79 i0 x1 σ rec8 v2 v3 v4 = (rec8 v2 v3 (v4 + (2 : Int32))) := rfl
def f_X2_dayToldMost_73 (i0 : Nat) (x1 : Int32) (σ : St) (rec8 : Int32 → Int32 → Int32 → Option Int32) (v4 : Int32) (v5 : Int32) (v6 : Int32) : Option Int32 := (f_X2_dayToldMost_79 i0 x1 σ rec8 v5 v6 v4)
theorem f_X2_dayToldMost_73_e {i0 : Nat} {x1 : Int32} {σ : St} {rec8 : Int32 → Int32 → Int32 → Option Int32} {v4 : Int32} {v5 : Int32} {v6 : Int32} : f_X2_dayToldMost_73 i0 x1 σ rec8 v4 v5 v6 = (f_X2_dayToldMost_79 i0 x1 σ rec8 v5 v6 v4) := rfl
def f_X2_dayToldMost_48 (i0 : Nat) (x1 : Int32) (σ : St) (rec8 : Int32 → Int32 → Int32 → Option Int32) (v2 : Int32) (v3 : Int32) (v4 : Int32) (v5 : Int32) (z0 : Int32) : Option Int32 := (if v3 < z0 then f_X2_dayToldMost_73 i0 x1 σ rec8 v4 v5 z0 else (if z0 ≤ 0 then f_X2_dayToldMost_79 i0 x1 σ rec8 v2 v3 v4 else (if z0 = v3 then (if v2 ≤ v5 then f_X2_dayToldMost_79 i0 x1 σ rec8 v2 v3 v4 else f_X2_dayToldMost_73 i0 x1 σ rec8 v4 v5 z0) else f_X2_dayToldMost_79 i0 x1 σ rec8 v2 v3 v4)))
theorem f_X2_dayToldMost_48_e {i0 : Nat} {x1 : Int32} {σ : St} {rec8 : Int32 → Int32 → Int32 → Option Int32} {v2 : Int32} {v3 : Int32} {v4 : Int32} {v5 : Int32} {z0 : Int32} : f_X2_dayToldMost_48 i0 x1 σ rec8 v2 v3 v4 v5 z0 = (if v3 < z0 then f_X2_dayToldMost_73 i0 x1 σ rec8 v4 v5 z0 else (if z0 ≤ 0 then f_X2_dayToldMost_79 i0 x1 σ rec8 v2 v3 v4 else (if z0 = v3 then (if v2 ≤ v5 then f_X2_dayToldMost_79 i0 x1 σ rec8 v2 v3 v4 else f_X2_dayToldMost_73 i0 x1 σ rec8 v4 v5 z0) else f_X2_dayToldMost_79 i0 x1 σ rec8 v2 v3 v4))) := rfl
def f_X2_dayToldMost_8 (i0 : Nat) (x1 : Int32) (σ : St) : Nat → (Int32 → Int32 → Int32 → Option Int32)
  | 0 => fun _ _ _ => none
  | fl + 1 => fun v2 v3 v4 => (if (σ i0 1) ≤ v4 then (some v2) else (ob (f_X5_cell i0 (v4 + (1 : Int32)) σ) (fun q2 => ob (f_X5_cell i0 v4 σ) (fun q4 => if q4 = x1 then (ob (f_X2_timesTold i0 x1 q2 σ) (fun q11 => f_X2_dayToldMost_48 i0 x1 σ (f_X2_dayToldMost_8 i0 x1 σ fl) v2 v3 v4 q2 q11)) else (f_X2_dayToldMost_48 i0 x1 σ (f_X2_dayToldMost_8 i0 x1 σ fl) v2 v3 v4 q2 (0 : Int32))))))
theorem f_X2_dayToldMost_8_s {i0 : Nat} {x1 : Int32} {σ : St} (fl : Nat) {v2 : Int32} {v3 : Int32} {v4 : Int32} : f_X2_dayToldMost_8 i0 x1 σ (fl + 1) v2 v3 v4 = (if (σ i0 1) ≤ v4 then (some v2) else (ob (f_X5_cell i0 (v4 + (1 : Int32)) σ) (fun q2 => ob (f_X5_cell i0 v4 σ) (fun q4 => if q4 = x1 then (ob (f_X2_timesTold i0 x1 q2 σ) (fun q11 => f_X2_dayToldMost_48 i0 x1 σ (f_X2_dayToldMost_8 i0 x1 σ fl) v2 v3 v4 q2 q11)) else (f_X2_dayToldMost_48 i0 x1 σ (f_X2_dayToldMost_8 i0 x1 σ fl) v2 v3 v4 q2 (0 : Int32)))))) := rfl
def f_X2_dayToldMost (i0 : Nat) (x1 : Int32) (σ : St) : Option Int32 := (f_X2_dayToldMost_8 i0 x1 σ fu (-4 : Int32) (0 : Int32) (0 : Int32))
set_option maxRecDepth 100000 in
set_option maxHeartbeats 4000000 in
theorem t_X2_dayToldMost (l : Launch) (G : GT) (hG : Dw G) (i0 : Nat) (x1 : Int32) (hk0 : kd i0 = 2) (σ : St) (o : Int32) (hF : f_X2_dayToldMost i0 x1 σ = some o) : Ct l G yX2_dayToldMost wsX2_dayToldMost 2 45 [.ref (gA G i0), .int x1] σ (some (.int o)) σ := by
  refine Met.ofW (cc := cX2_dayToldMost) (maxL := 7) (ret := (some .int)) (by decide) rfl ?_
  intro p e s m args below meth c s₁ B hml hv
  obtain ⟨rfl, hP, hK⟩ := hv
  have hx := B.exec
  have hb := B.bytes
  have hr := B.returns
  have hts := atoms_spec (ws := wsX2_dayToldMost) B.pre
  have hown : s.vm.findClass RX2 = some m.cls := findClass_of_methodNamed B.named
  have hlocks := B.notSynchronized
  have Z : CallFix p m c cX2_dayToldMost 7 s _ wsX2_dayToldMost RX2 := ⟨hx, hb, hml, hown, hts⟩
  have hS : va_S (AG G) s.heap s.heap [] := va_S.rf
  have inX5 : ∀ w ∈ u_ws RX5 TX5 5, w ∈ wsX2_dayToldMost := by decide +kernel
  have w1n : va_Nw (.fieldLinkNest "AlmanacOfTheYearGone$Diary" 9 "AlmanacOfTheYearGone$Shelf" "length" "I" "AlmanacOfTheYearGone") s := hK.2 _ (List.mem_of_getElem? (i := 1) rfl)
  have w1 := va_Nw.use (A := [.ref (gA G i0), .int x1].toArray) rfl w1n
  have w2 := hts (.initialized RX5) (by decide +kernel)
  have w3n : va_Nw (.methodLinkNest "AlmanacOfTheYearGone$Diary" 15 ⟨"AlmanacOfTheYearGone$Shelf", "cell", "(I)I"⟩ "AlmanacOfTheYearGone") s := hK.2 _ (List.mem_of_getElem? (i := 83) rfl)
  have w3 := va_Nw.use (A := [.ref (gA G i0), .int x1].toArray) rfl w3n
  have w4 := hts (.instanceMethod yX5_cell) (by decide +kernel)
  have w5 := hts (.selects RX5 yX5_cell yX5_cell) (by decide +kernel)
  have hl := lv_entry ([.ref (gA G i0), .int x1]) (n := 7) (Nat.le_of_ble_eq_true rfl)
  rw [lg_entry_eq]
  generalize (lg_sl ([.ref (gA G i0), .int x1]) ++ List.replicate (7 - (lg_sl ([.ref (gA G i0), .int x1])).length) Slot.unset).toArray = ls at hl ⊢
  have hl : lv_has ls 7 [(0, .ref (gA G i0)), (1, .int x1)] := hl
  unfold f_X2_dayToldMost at hF
  refine lv_bipush (v := -4) hx hb dX2_dayToldMost_0 (by decide) ?_
  refine lv_istore_n (lv' := [(2, .int (-4 : Int32)), (0, .ref (gA G i0)), (1, .int x1)]) hx hb dX2_dayToldMost_2 rfl hl (by decide) rfl (fun ls hl => ?_)
  refine lv_iconst (v := 0) hx hb dX2_dayToldMost_3 (by decide) ?_
  refine lv_istore_n (lv' := [(3, .int (0 : Int32)), (2, .int (-4 : Int32)), (0, .ref (gA G i0)), (1, .int x1)]) hx hb dX2_dayToldMost_4 rfl hl (by decide) rfl (fun ls hl => ?_)
  refine lv_iconst (v := 0) hx hb dX2_dayToldMost_5 (by decide) ?_
  have J8 : ∀ (fl : Nat) (v2 : Int32) (v3 : Int32) (v4 : Int32) (H : Heap) (locs : List Loc) (hP : Pw G σ H) (hS : va_S (AG G) s.heap H locs) (ls : Array Slot) (hl : lv_has ls 7 [(0, .ref (gA G i0)), (1, .int x1), (2, .int v2), (3, .int v3), (4, .int v4)]) (hF : f_X2_dayToldMost_8 i0 x1 σ fl v2 v3 v4 = some o), W p l e (headSpec wsX2_dayToldMost ({ frames := 2, cells := 0, slots := 0, locals := 45 })).room s m ([.ref (gA G i0), .int x1] : List Value).toArray below meth c H locs 0 0 (MQ below (qR G (some (.int o)) σ) ([.ref (gA G i0), .int x1] : List Value).toArray s 0 0 (AG G)) (F0 m 8 ls []) := by
    intro fl8
    induction fl8 with
    | zero => intro v2 v3 v4 H locs hP hS ls hl hF; cases hF
    | succ fl8 ih8 =>
      intro v2 v3 v4 H locs hP hS ls hl hF
      rw [f_X2_dayToldMost_8_s] at hF
      refine lv_iload hx hb dX2_dayToldMost_8 (lv_at hl 4 rfl) ?_
      refine lv_aload_n hx hb dX2_dayToldMost_10 rfl (lv_at hl 0 rfl) ?_
      refine va_getN (ci := 2) (C := RX5) (T := TX5) (N := 5) (v := .int (σ i0 1)) hx hb hts inX5 hown hK.1 hP i0 (at_2 hk0) rfl 1 (by decide) w1 (fun _ h9 => h9) rfl dX2_dayToldMost_11 ?_
      refine lv_icmp_ge (tgt := 85) hx hb dX2_dayToldMost_14 (by decide) (fun c1 => ?_) (fun c1 => ?_)
      · have hF := ite_t c1 hF
        refine lv_iload_n hx hb dX2_dayToldMost_85 rfl (lv_at hl 2 rfl) ?_
        exact e_iP hx hb hr hP hS hlocks dX2_dayToldMost_86 hF
      · have hF := ite_f c1 hF
        refine lv_aload_n hx hb dX2_dayToldMost_17 rfl (lv_at hl 0 rfl) ?_
        refine lv_iload hx hb dX2_dayToldMost_18 (lv_at hl 4 rfl) ?_
        refine lv_iconst (v := 1) hx hb dX2_dayToldMost_20 (by decide) ?_
        refine lv_iadd hx hb dX2_dayToldMost_21 ?_
        obtain ⟨q2, h3, hF⟩ := ob_some hF
        refine k_VNv (As := [.int (v4 + (1 : Int32))]) (rest := []) Z hK hP hS (t_X5_cell l G hG i0 (v4 + (1 : Int32)) hk0 σ _ h3) ⟨va_cnB 1 hts gX2_dayToldMost_X5_cell_n15 rfl rfl rfl w3n w2 (by decide +kernel) ⟨Nat.le_of_ble_eq_true rfl, Nat.le_of_ble_eq_true rfl⟩, w4, w5⟩ (at_2 hk0) rfl rfl hl.1 rfl (Nat.le_of_ble_eq_true rfl) ⟨Nat.zero_le _, Nat.zero_le _⟩ dX2_dayToldMost_22 (fun H locs hP hS => ?_)
        refine lv_istore (lv' := [(5, .int q2), (0, .ref (gA G i0)), (1, .int x1), (2, .int v2), (3, .int v3), (4, .int v4)]) hx hb dX2_dayToldMost_25 hl (by decide) rfl (fun ls hl => ?_)
        refine lv_aload_n hx hb dX2_dayToldMost_27 rfl (lv_at hl 1 rfl) ?_
        refine lv_iload hx hb dX2_dayToldMost_28 (lv_at hl 5 rfl) ?_
        obtain ⟨q4, h5, hF⟩ := ob_some hF
        refine k_VNv (As := [.int v4]) (rest := []) Z hK hP hS (t_X5_cell l G hG i0 v4 hk0 σ _ h5) ⟨va_cnB 1 hts gX2_dayToldMost_X5_cell_n15 rfl rfl rfl w3n w2 (by decide +kernel) ⟨Nat.le_of_ble_eq_true rfl, Nat.le_of_ble_eq_true rfl⟩, w4, w5⟩ (at_2 hk0) rfl rfl hl.1 rfl (Nat.le_of_ble_eq_true rfl) ⟨Nat.zero_le _, Nat.zero_le _⟩ dX2_dayToldMost_30 (fun H locs hP hS => ?_)
        refine lv_iload_n hx hb dX2_dayToldMost_33 rfl (lv_at hl 2 rfl) ?_
        have J48 : ∀ (v2 : Int32) (v3 : Int32) (v4 : Int32) (v5 : Int32) (z0 : Int32) (H : Heap) (locs : List Loc) (hP : Pw G σ H) (hS : va_S (AG G) s.heap H locs) (ls : Array Slot) (hl : lv_has ls 7 [(0, .ref (gA G i0)), (1, .int x1), (2, .int v2), (3, .int v3), (4, .int v4), (5, .int v5)]) (hF : f_X2_dayToldMost_48 i0 x1 σ (f_X2_dayToldMost_8 i0 x1 σ fl8) v2 v3 v4 v5 z0 = some o), W p l e (headSpec wsX2_dayToldMost ({ frames := 2, cells := 0, slots := 0, locals := 45 })).room s m ([.ref (gA G i0), .int x1] : List Value).toArray below meth c H locs 0 0 (MQ below (qR G (some (.int o)) σ) ([.ref (gA G i0), .int x1] : List Value).toArray s 0 0 (AG G)) (F0 m 48 ls [.int z0]) := by
          intro v2 v3 v4 v5 z0 H locs hP hS ls hl hF
          rw [f_X2_dayToldMost_48_e] at hF
          refine lv_istore (lv' := [(6, .int z0), (0, .ref (gA G i0)), (1, .int x1), (2, .int v2), (3, .int v3), (4, .int v4), (5, .int v5)]) hx hb dX2_dayToldMost_48 hl (by decide) rfl (fun ls hl => ?_)
          refine lv_iload hx hb dX2_dayToldMost_50 (lv_at hl 0 rfl) ?_
          refine lv_iload_n hx hb dX2_dayToldMost_52 rfl (lv_at hl 4 rfl) ?_
          have J79 : ∀ (v2 : Int32) (v3 : Int32) (v4 : Int32) (H : Heap) (locs : List Loc) (hP : Pw G σ H) (hS : va_S (AG G) s.heap H locs) (ls : Array Slot) (hl : lv_has ls 7 [(0, .ref (gA G i0)), (1, .int x1), (2, .int v2), (3, .int v3), (4, .int v4)]) (hF : f_X2_dayToldMost_79 i0 x1 σ (f_X2_dayToldMost_8 i0 x1 σ fl8) v2 v3 v4 = some o), W p l e (headSpec wsX2_dayToldMost ({ frames := 2, cells := 0, slots := 0, locals := 45 })).room s m ([.ref (gA G i0), .int x1] : List Value).toArray below meth c H locs 0 0 (MQ below (qR G (some (.int o)) σ) ([.ref (gA G i0), .int x1] : List Value).toArray s 0 0 (AG G)) (F0 m 79 ls []) := by
            intro v2 v3 v4 H locs hP hS ls hl hF
            rw [f_X2_dayToldMost_79_e] at hF
            refine lv_iinc (v := (v4 + (2 : Int32))) (lv' := [(4, .int (v4 + (2 : Int32))), (0, .ref (gA G i0)), (1, .int x1), (2, .int v2), (3, .int v3)]) hx hb dX2_dayToldMost_79 hl (k := 4) rfl rfl (by decide) rfl (fun ls hl => ?_)
            refine lv_goto (tgt := 8) hx hb dX2_dayToldMost_82 (by decide) ?_
            exact ih8 v2 v3 (v4 + (2 : Int32)) _ _ hP hS ls (lv_sub hl [1, 2, 3, 4, 0] rfl) hF
          have J73 : ∀ (v4 : Int32) (v5 : Int32) (v6 : Int32) (H : Heap) (locs : List Loc) (hP : Pw G σ H) (hS : va_S (AG G) s.heap H locs) (ls : Array Slot) (hl : lv_has ls 7 [(0, .ref (gA G i0)), (1, .int x1), (4, .int v4), (5, .int v5), (6, .int v6)]) (hF : f_X2_dayToldMost_73 i0 x1 σ (f_X2_dayToldMost_8 i0 x1 σ fl8) v4 v5 v6 = some o), W p l e (headSpec wsX2_dayToldMost ({ frames := 2, cells := 0, slots := 0, locals := 45 })).room s m ([.ref (gA G i0), .int x1] : List Value).toArray below meth c H locs 0 0 (MQ below (qR G (some (.int o)) σ) ([.ref (gA G i0), .int x1] : List Value).toArray s 0 0 (AG G)) (F0 m 73 ls []) := by
            intro v4 v5 v6 H locs hP hS ls hl hF
            rw [f_X2_dayToldMost_73_e] at hF
            refine lv_iload hx hb dX2_dayToldMost_73 (lv_at hl 4 rfl) ?_
            refine lv_istore_n (lv' := [(3, .int v6), (0, .ref (gA G i0)), (1, .int x1), (4, .int v4), (5, .int v5), (6, .int v6)]) hx hb dX2_dayToldMost_75 rfl hl (by decide) rfl (fun ls hl => ?_)
            refine lv_iload hx hb dX2_dayToldMost_76 (lv_at hl 4 rfl) ?_
            refine lv_istore_n (lv' := [(2, .int v5), (3, .int v6), (0, .ref (gA G i0)), (1, .int x1), (4, .int v4), (5, .int v5), (6, .int v6)]) hx hb dX2_dayToldMost_78 rfl hl (by decide) rfl (fun ls hl => ?_)
            exact J79 v5 v6 v4 _ _ hP hS ls (lv_sub hl [2, 3, 0, 1, 4] rfl) hF
          refine lv_icmp_gt (tgt := 73) hx hb dX2_dayToldMost_53 (by decide) (fun c6 => ?_) (fun c6 => ?_)
          · have hF := ite_t c6 hF
            exact J73 v4 v5 z0 _ _ hP hS ls (lv_sub hl [1, 2, 5, 6, 0] rfl) hF
          · have hF := ite_f c6 hF
            refine lv_iload hx hb dX2_dayToldMost_56 (lv_at hl 0 rfl) ?_
            refine lv_if_le (tgt := 79) hx hb dX2_dayToldMost_58 (by decide) (fun c7 => ?_) (fun c7 => ?_)
            · have hF := ite_t c7 hF
              exact J79 v2 v3 v4 _ _ hP hS ls (lv_sub hl [1, 2, 3, 4, 5] rfl) hF
            · have hF := ite_f c7 hF
              refine lv_iload hx hb dX2_dayToldMost_61 (lv_at hl 0 rfl) ?_
              refine lv_iload_n hx hb dX2_dayToldMost_63 rfl (lv_at hl 4 rfl) ?_
              refine lv_icmp_ne (tgt := 79) hx hb dX2_dayToldMost_64 (by decide) (fun c8 => ?_) (fun c8 => ?_)
              · have hF := ite_f c8 hF
                exact J79 v2 v3 v4 _ _ hP hS ls (lv_sub hl [1, 2, 3, 4, 5] rfl) hF
              · have hF := ite_t c8 hF
                refine lv_iload hx hb dX2_dayToldMost_67 (lv_at hl 6 rfl) ?_
                refine lv_iload_n hx hb dX2_dayToldMost_69 rfl (lv_at hl 3 rfl) ?_
                refine lv_icmp_ge (tgt := 79) hx hb dX2_dayToldMost_70 (by decide) (fun c9 => ?_) (fun c9 => ?_)
                · have hF := ite_t c9 hF
                  exact J79 v2 v3 v4 _ _ hP hS ls (lv_sub hl [1, 2, 3, 4, 5] rfl) hF
                · have hF := ite_f c9 hF
                  exact J73 v4 v5 z0 _ _ hP hS ls (lv_sub hl [1, 2, 5, 6, 0] rfl) hF
        refine lv_icmp_ne (tgt := 47) hx hb dX2_dayToldMost_34 (by decide) (fun c10 => ?_) (fun c10 => ?_)
        · have hF := ite_f c10 hF
          refine lv_iconst (v := 0) hx hb dX2_dayToldMost_47 (by decide) ?_
          exact J48 v2 v3 v4 q2 (0 : Int32) _ _ hP hS ls (lv_sub hl [1, 2, 3, 4, 5, 0] rfl) hF
        · have hF := ite_t c10 hF
          refine lv_aload_n hx hb dX2_dayToldMost_37 rfl (lv_at hl 1 rfl) ?_
          refine lv_iload_n hx hb dX2_dayToldMost_38 rfl (lv_at hl 2 rfl) ?_
          refine lv_iload hx hb dX2_dayToldMost_39 (lv_at hl 0 rfl) ?_
          obtain ⟨q11, h12, hF⟩ := ob_some hF
          refine k_Sv (As := [.ref (gA G i0), .int x1, .int q2]) (rest := []) Z hK hP hS (t_X2_timesTold l G hG i0 x1 q2 hk0 σ _ h12) (va_cwS 3 hts gX2_dayToldMost_X2_timesTold rfl rfl rfl (by decide +kernel) ⟨Nat.le_of_ble_eq_true rfl, Nat.le_of_ble_eq_true rfl⟩) rfl hl.1 rfl (Nat.le_of_ble_eq_true rfl) ⟨Nat.zero_le _, Nat.zero_le _⟩ dX2_dayToldMost_41 (fun H locs hP hS => ?_)
          refine lv_goto (tgt := 48) hx hb dX2_dayToldMost_44 (by decide) ?_
          exact J48 v2 v3 v4 q2 q11 _ _ hP hS ls (lv_sub hl [1, 2, 3, 4, 5, 0] rfl) hF
  refine lv_istore (lv' := [(4, .int (0 : Int32)), (3, .int (0 : Int32)), (2, .int (-4 : Int32)), (0, .ref (gA G i0)), (1, .int x1)]) hx hb dX2_dayToldMost_6 hl (by decide) rfl (fun ls hl => ?_)
  exact J8 fu (-4 : Int32) (0 : Int32) (0 : Int32) _ _ hP hS ls (lv_sub hl [3, 4, 2, 1, 0] rfl) hF
