def f_X9_placeOf_2 (x1 : Int32) (σ : St) : Nat → (Int32 → Option Int32)
  | 0 => fun _ => none
  | fl + 1 => fun v2 => (if (σ 61 7) ≤ v2 then (some (-4 : Int32)) else (if inb v2 10 then if (σ 66 v2.toNatClampNeg) = x1 then (some v2) else ((f_X9_placeOf_2 x1 σ fl) (v2 + (1 : Int32))) else none))
theorem f_X9_placeOf_2_s {x1 : Int32} {σ : St} (fl : Nat) {v2 : Int32} : f_X9_placeOf_2 x1 σ (fl + 1) v2 = (if (σ 61 7) ≤ v2 then (some (-4 : Int32)) else (if inb v2 10 then if (σ 66 v2.toNatClampNeg) = x1 then (some v2) else ((f_X9_placeOf_2 x1 σ fl) (v2 + (1 : Int32))) else none)) := rfl
def f_X9_placeOf (x1 : Int32) (σ : St) : Option Int32 := (f_X9_placeOf_2 x1 σ fu (0 : Int32))
set_option maxRecDepth 100000 in
set_option maxHeartbeats 4000000 in
theorem t_X9_placeOf (l : Launch) (G : GT) (hG : Dw G) (x1 : Int32) (σ : St) (o : Int32) (hF : f_X9_placeOf x1 σ = some o) : Ct l G yX9_placeOf wsX9_placeOf 0 0 [.ref (gA G 61), .int x1] σ (some (.int o)) σ := by
  refine Met.ofW (cc := cX9_placeOf) (maxL := 3) (ret := (some .int)) (by decide) rfl ?_
  intro p e s m args below meth c s₁ B hml hv
  obtain ⟨rfl, hP, hK⟩ := hv
  have hx := B.exec
  have hb := B.bytes
  have hr := B.returns
  have hts := atoms_spec (ws := wsX9_placeOf) B.pre
  have hown : s.vm.findClass RX9 = some m.cls := findClass_of_methodNamed B.named
  have hlocks := B.notSynchronized
  have Z : CallFix p m c cX9_placeOf 3 s _ wsX9_placeOf RX9 := ⟨hx, hb, hml, hown, hts⟩
  have hS : va_S (AG G) s.heap s.heap [] := va_S.rf
  have inX9 : ∀ w ∈ u_ws RX9 TX9 21, w ∈ wsX9_placeOf := by decide +kernel
  have w1 := hts (.fieldLink RX9 85 "AlmanacOfTheYearGoneModel" "toldMany" "I") (by decide +kernel)
  have w2 := hts (.fieldLink RX9 22 "AlmanacOfTheYearGoneModel" "told" "[I") (by decide +kernel)
  have hl := lv_entry ([.ref (gA G 61), .int x1]) (n := 3) (Nat.le_of_ble_eq_true rfl)
  rw [lg_entry_eq]
  generalize (lg_sl ([.ref (gA G 61), .int x1]) ++ List.replicate (3 - (lg_sl ([.ref (gA G 61), .int x1])).length) Slot.unset).toArray = ls at hl ⊢
  have hl : lv_has ls 3 [(0, .ref (gA G 61)), (1, .int x1)] := hl
  unfold f_X9_placeOf at hF
  refine lv_iconst (v := 0) hx hb dX9_placeOf_0 (by decide) ?_
  have J2 : ∀ (fl : Nat) (v2 : Int32) (H : Heap) (locs : List Loc) (hP : Pw G σ H) (hS : va_S (AG G) s.heap H locs) (ls : Array Slot) (hl : lv_has ls 3 [(0, .ref (gA G 61)), (1, .int x1), (2, .int v2)]) (hF : f_X9_placeOf_2 x1 σ fl v2 = some o), W p l e (headSpec wsX9_placeOf ({ frames := 0, cells := 0, slots := 0, locals := 0 })).room s m ([.ref (gA G 61), .int x1] : List Value).toArray below meth c H locs 0 0 (MQ below (qR G (some (.int o)) σ) ([.ref (gA G 61), .int x1] : List Value).toArray s 0 0 (AG G)) (F0 m 2 ls []) := by
    intro fl2
    induction fl2 with
    | zero => intro v2 H locs hP hS ls hl hF; cases hF
    | succ fl2 ih2 =>
      intro v2 H locs hP hS ls hl hF
      rw [f_X9_placeOf_2_s] at hF
      refine lv_iload_n hx hb dX9_placeOf_2 rfl (lv_at hl 2 rfl) ?_
      refine lv_aload_n hx hb dX9_placeOf_3 rfl (lv_at hl 0 rfl) ?_
      refine va_get (ci := 5) (C := RX9) (T := TX9) (N := 21) (v := .int (σ 61 7)) hx hb hts inX9 hown hK.1 hP 61 (at_5 rfl) rfl 7 (by decide) w1 (fun _ h9 => h9) rfl dX9_placeOf_4 ?_
      refine lv_icmp_ge (tgt := 28) hx hb dX9_placeOf_7 (by decide) (fun c1 => ?_) (fun c1 => ?_)
      · have hF := ite_t c1 hF
        refine lv_bipush (v := -4) hx hb dX9_placeOf_28 (by decide) ?_
        exact e_iP hx hb hr hP hS hlocks dX9_placeOf_30 hF
      · have hF := ite_f c1 hF
        refine lv_aload_n hx hb dX9_placeOf_10 rfl (lv_at hl 0 rfl) ?_
        refine va_get (ci := 5) (C := RX9) (T := TX9) (N := 21) (v := .ref (gA G 66)) hx hb hts inX9 hown hK.1 hP 61 (at_5 rfl) rfl 5 (by decide) w2 (fun _ h9 => h9) rfl dX9_placeOf_11 ?_
        refine lv_iload_n hx hb dX9_placeOf_14 rfl (lv_at hl 2 rfl) ?_
        obtain ⟨b2, hF⟩ := ite_some hF
        refine va_iald hx hb hK.1 hP 66 0 (at_6 (rfl : kd 66 = 6) (rfl : ln 66 = 10)) rfl (inb_in b2) dX9_placeOf_15 ?_
        refine lv_iload_n hx hb dX9_placeOf_16 rfl (lv_at hl 1 rfl) ?_
        refine lv_icmp_ne (tgt := 22) hx hb dX9_placeOf_17 (by decide) (fun c3 => ?_) (fun c3 => ?_)
        · have hF := ite_f c3 hF
          refine lv_iinc (v := (v2 + (1 : Int32))) (lv' := [(2, .int (v2 + (1 : Int32))), (0, .ref (gA G 61)), (1, .int x1)]) hx hb dX9_placeOf_22 hl (k := 2) rfl rfl (by decide) rfl (fun ls hl => ?_)
          refine lv_goto (tgt := 2) hx hb dX9_placeOf_25 (by decide) ?_
          exact ih2 (v2 + (1 : Int32)) _ _ hP hS ls (lv_sub hl [1, 2, 0] rfl) hF
        · have hF := ite_t c3 hF
          refine lv_iload_n hx hb dX9_placeOf_20 rfl (lv_at hl 2 rfl) ?_
          exact e_iP hx hb hr hP hS hlocks dX9_placeOf_21 hF
  refine lv_istore_n (lv' := [(2, .int (0 : Int32)), (0, .ref (gA G 61)), (1, .int x1)]) hx hb dX9_placeOf_1 rfl hl (by decide) rfl (fun ls hl => ?_)
  exact J2 fu (0 : Int32) _ _ hP hS ls (lv_sub hl [1, 2, 0] rfl) hF
def f_X9_here (σ : St) : Option Int32 := (if (σ 61 11) ≤ (σ 61 9) then (some (-1 : Int32)) else (if inb ((σ 61 10) + (σ 61 9)) 800 then some ((σ 74 ((σ 61 10) + (σ 61 9)).toNatClampNeg) &&& (255 : Int32)) else none))
set_option maxRecDepth 100000 in
set_option maxHeartbeats 4000000 in
theorem t_X9_here (l : Launch) (G : GT) (hG : Dw G) (σ : St) (o : Int32) (hF : f_X9_here σ = some o) : Ct l G yX9_here wsX9_here 0 0 [.ref (gA G 61)] σ (some (.int o)) σ := by
  refine Met.ofW (cc := cX9_here) (maxL := 1) (ret := (some .int)) (by decide) rfl ?_
  intro p e s m args below meth c s₁ B hml hv
  obtain ⟨rfl, hP, hK⟩ := hv
  have hx := B.exec
  have hb := B.bytes
  have hr := B.returns
  have hts := atoms_spec (ws := wsX9_here) B.pre
  have hown : s.vm.findClass RX9 = some m.cls := findClass_of_methodNamed B.named
  have hlocks := B.notSynchronized
  have Z : CallFix p m c cX9_here 1 s _ wsX9_here RX9 := ⟨hx, hb, hml, hown, hts⟩
  have hS : va_S (AG G) s.heap s.heap [] := va_S.rf
  have inX9 : ∀ w ∈ u_ws RX9 TX9 21, w ∈ wsX9_here := by decide +kernel
  have w1 := hts (.fieldLink RX9 95 "AlmanacOfTheYearGoneModel" "place" "I") (by decide +kernel)
  have w2 := hts (.fieldLink RX9 98 "AlmanacOfTheYearGoneModel" "rowEnd" "I") (by decide +kernel)
  have w3 := hts (.fieldLink RX9 46 "AlmanacOfTheYearGoneModel" "element" "[I") (by decide +kernel)
  have w4 := hts (.fieldLink RX9 101 "AlmanacOfTheYearGoneModel" "rowAt" "I") (by decide +kernel)
  have hl := lv_entry ([.ref (gA G 61)]) (n := 1) (Nat.le_of_ble_eq_true rfl)
  rw [lg_entry_eq]
  generalize (lg_sl ([.ref (gA G 61)]) ++ List.replicate (1 - (lg_sl ([.ref (gA G 61)])).length) Slot.unset).toArray = ls at hl ⊢
  have hl : lv_has ls 1 [(0, .ref (gA G 61))] := hl
  unfold f_X9_here at hF
  refine lv_aload_n hx hb dX9_here_0 rfl (lv_at hl 0 rfl) ?_
  refine va_get (ci := 5) (C := RX9) (T := TX9) (N := 21) (v := .int (σ 61 9)) hx hb hts inX9 hown hK.1 hP 61 (at_5 rfl) rfl 9 (by decide) w1 (fun _ h9 => h9) rfl dX9_here_1 ?_
  refine lv_aload_n hx hb dX9_here_4 rfl (lv_at hl 0 rfl) ?_
  refine va_get (ci := 5) (C := RX9) (T := TX9) (N := 21) (v := .int (σ 61 11)) hx hb hts inX9 hown hK.1 hP 61 (at_5 rfl) rfl 11 (by decide) w2 (fun _ h9 => h9) rfl dX9_here_5 ?_
  refine lv_icmp_ge (tgt := 32) hx hb dX9_here_8 (by decide) (fun c1 => ?_) (fun c1 => ?_)
  · have hF := ite_t c1 hF
    refine lv_iconst (v := -1) hx hb dX9_here_32 (by decide) ?_
    exact e_iP hx hb hr hP hS hlocks dX9_here_33 hF
  · have hF := ite_f c1 hF
    refine lv_aload_n hx hb dX9_here_11 rfl (lv_at hl 0 rfl) ?_
    refine va_get (ci := 5) (C := RX9) (T := TX9) (N := 21) (v := .ref (gA G 74)) hx hb hts inX9 hown hK.1 hP 61 (at_5 rfl) rfl 19 (by decide) w3 (fun _ h9 => h9) rfl dX9_here_12 ?_
    refine lv_aload_n hx hb dX9_here_15 rfl (lv_at hl 0 rfl) ?_
    refine va_get (ci := 5) (C := RX9) (T := TX9) (N := 21) (v := .int (σ 61 10)) hx hb hts inX9 hown hK.1 hP 61 (at_5 rfl) rfl 10 (by decide) w4 (fun _ h9 => h9) rfl dX9_here_16 ?_
    refine lv_aload_n hx hb dX9_here_19 rfl (lv_at hl 0 rfl) ?_
    refine va_get (ci := 5) (C := RX9) (T := TX9) (N := 21) (v := .int (σ 61 9)) hx hb hts inX9 hown hK.1 hP 61 (at_5 rfl) rfl 9 (by decide) w1 (fun _ h9 => h9) rfl dX9_here_20 ?_
    refine lv_iadd hx hb dX9_here_23 ?_
    obtain ⟨b2, hF⟩ := ite_some hF
    refine va_iald hx hb hK.1 hP 74 0 (at_6 (rfl : kd 74 = 6) (rfl : ln 74 = 800)) rfl (inb_in b2) dX9_here_24 ?_
    refine lv_sipush (v := 255) hx hb dX9_here_25 (by decide) ?_
    refine lv_iand hx hb dX9_here_28 ?_
    refine lv_goto (tgt := 33) hx hb dX9_here_29 (by decide) ?_
    exact e_iP hx hb hr hP hS hlocks dX9_here_33 hF
def f_X9_readsNumber_9 (x1 : Int32) (x2 : Int32) : Nat → (Int32 → St → Option (Bool × St))
  | 0 => fun _ _ => none
  | fl + 1 => fun v3 τ => (if x2 ≤ v3 then (some (true, τ)) else (ob (f_X9_here τ) (fun q3 => if (f_X9_isIn q3 (48 : Int32) (57 : Int32)) = true then (if inb x1 5 then ob (f_X9_here τ) (fun q7 => if inb x1 5 then (f_X9_readsNumber_9 x1 x2 fl) (v3 + (1 : Int32)) (up (up τ 68 x1.toNatClampNeg ((((10 : Int32) * (τ 68 x1.toNatClampNeg)) + q7) - (48 : Int32))) 61 9 (((up τ 68 x1.toNatClampNeg ((((10 : Int32) * (τ 68 x1.toNatClampNeg)) + q7) - (48 : Int32))) 61 9) + (1 : Int32))) else none) else none) else (some (false, τ)))))
theorem f_X9_readsNumber_9_s {x1 : Int32} {x2 : Int32} (fl : Nat) {v3 : Int32} {τ : St} : f_X9_readsNumber_9 x1 x2 (fl + 1) v3 τ = (if x2 ≤ v3 then (some (true, τ)) else (ob (f_X9_here τ) (fun q3 => if (f_X9_isIn q3 (48 : Int32) (57 : Int32)) = true then (if inb x1 5 then ob (f_X9_here τ) (fun q7 => if inb x1 5 then (f_X9_readsNumber_9 x1 x2 fl) (v3 + (1 : Int32)) (up (up τ 68 x1.toNatClampNeg ((((10 : Int32) * (τ 68 x1.toNatClampNeg)) + q7) - (48 : Int32))) 61 9 (((up τ 68 x1.toNatClampNeg ((((10 : Int32) * (τ 68 x1.toNatClampNeg)) + q7) - (48 : Int32))) 61 9) + (1 : Int32))) else none) else none) else (some (false, τ))))) := rfl
def f_X9_readsNumber (x1 : Int32) (x2 : Int32) (σ : St) : Option (Bool × St) := (if inb x1 5 then f_X9_readsNumber_9 x1 x2 fu (0 : Int32) (up σ 68 x1.toNatClampNeg (0 : Int32)) else none)
set_option maxRecDepth 100000 in
set_option maxHeartbeats 4000000 in
theorem t_X9_readsNumber (l : Launch) (G : GT) (hG : Dw G) (x1 : Int32) (x2 : Int32) (σ : St) (o : Bool × St) (hF : f_X9_readsNumber x1 x2 σ = some o) : Ct l G yX9_readsNumber wsX9_readsNumber 1 22 [.ref (gA G 61), .int x1, .int x2] σ (some (.int (b2i o.1))) o.2 := by
  refine Met.ofW (cc := cX9_readsNumber) (maxL := 4) (ret := (some .boolean)) (by decide) rfl ?_
  intro p e s m args below meth c s₁ B hml hv
  obtain ⟨rfl, hP, hK⟩ := hv
  have hx := B.exec
  have hb := B.bytes
  have hr := B.returns
  have hts := atoms_spec (ws := wsX9_readsNumber) B.pre
  have hown : s.vm.findClass RX9 = some m.cls := findClass_of_methodNamed B.named
  have hlocks := B.notSynchronized
  have Z : CallFix p m c cX9_readsNumber 4 s _ wsX9_readsNumber RX9 := ⟨hx, hb, hml, hown, hts⟩
  have hS : va_S (AG G) s.heap s.heap [] := va_S.rf
  have inX9 : ∀ w ∈ u_ws RX9 TX9 21, w ∈ wsX9_readsNumber := by decide +kernel
  have w1 := hts (.fieldLink RX9 28 "AlmanacOfTheYearGoneModel" "numbers" "[I") (by decide +kernel)
  have w2 := hts (.fieldLink RX9 95 "AlmanacOfTheYearGoneModel" "place" "I") (by decide +kernel)
  have hl := lv_entry ([.ref (gA G 61), .int x1, .int x2]) (n := 4) (Nat.le_of_ble_eq_true rfl)
  rw [lg_entry_eq]
  generalize (lg_sl ([.ref (gA G 61), .int x1, .int x2]) ++ List.replicate (4 - (lg_sl ([.ref (gA G 61), .int x1, .int x2])).length) Slot.unset).toArray = ls at hl ⊢
  have hl : lv_has ls 4 [(0, .ref (gA G 61)), (1, .int x1), (2, .int x2)] := hl
  unfold f_X9_readsNumber at hF
  refine lv_aload_n hx hb dX9_readsNumber_0 rfl (lv_at hl 0 rfl) ?_
  refine va_get (ci := 5) (C := RX9) (T := TX9) (N := 21) (v := .ref (gA G 68)) hx hb hts inX9 hown hK.1 hP 61 (at_5 rfl) rfl 12 (by decide) w1 (fun _ h9 => h9) rfl dX9_readsNumber_1 ?_
  refine lv_iload_n hx hb dX9_readsNumber_4 rfl (lv_at hl 1 rfl) ?_
  refine lv_iconst (v := 0) hx hb dX9_readsNumber_5 (by decide) ?_
  obtain ⟨b1, hF⟩ := ite_some hF
  refine va_iast hx hb hK.1 hP (Dw.D hG) hS 68 0 (at_6 (rfl : kd 68 = 6) (rfl : ln 68 = 5)) rfl (inb_in b1) dX9_readsNumber_6 (fun H locs hP _ hS => ?_)
  have hP : Pw G (up σ 68 x1.toNatClampNeg (0 : Int32)) H := Pw.of hP (set_6 (rfl : kd 68 = 6) (rfl : ln 68 = 5))
  refine lv_iconst (v := 0) hx hb dX9_readsNumber_7 (by decide) ?_
  have J9 : ∀ (fl : Nat) (v3 : Int32) (τ : St) (H : Heap) (locs : List Loc) (hP : Pw G τ H) (hS : va_S (AG G) s.heap H locs) (ls : Array Slot) (hl : lv_has ls 4 [(0, .ref (gA G 61)), (1, .int x1), (2, .int x2), (3, .int v3)]) (hF : f_X9_readsNumber_9 x1 x2 fl v3 τ = some o), W p l e (headSpec wsX9_readsNumber ({ frames := 1, cells := 0, slots := 0, locals := 22 })).room s m ([.ref (gA G 61), .int x1, .int x2] : List Value).toArray below meth c H locs 0 0 (MQ below (qR G (some (.int (b2i o.1))) o.2) ([.ref (gA G 61), .int x1, .int x2] : List Value).toArray s 0 0 (AG G)) (F0 m 9 ls []) := by
    intro fl9
    induction fl9 with
    | zero => intro v3 τ H locs hP hS ls hl hF; cases hF
    | succ fl9 ih9 =>
      intro v3 τ H locs hP hS ls hl hF
      rw [f_X9_readsNumber_9_s] at hF
      refine lv_iload_n hx hb dX9_readsNumber_9 rfl (lv_at hl 3 rfl) ?_
      refine lv_iload_n hx hb dX9_readsNumber_10 rfl (lv_at hl 2 rfl) ?_
      refine lv_icmp_ge (tgt := 69) hx hb dX9_readsNumber_11 (by decide) (fun c2 => ?_) (fun c2 => ?_)
      · have hF := ite_t c2 hF
        refine lv_iconst (v := 1) hx hb dX9_readsNumber_69 (by decide) ?_
        exact e_zS (b := true) hx hb hr hP hS hlocks dX9_readsNumber_70 rfl hF
      · have hF := ite_f c2 hF
        refine lv_aload_n hx hb dX9_readsNumber_14 rfl (lv_at hl 0 rfl) ?_
        obtain ⟨q3, h4, hF⟩ := ob_some hF
        refine k_Vv (As := []) (rest := []) Z hK hP hS (t_X9_here l G hG τ _ h4) (cwV 0 hts gX9_readsNumber_X9_here rfl rfl rfl (by decide +kernel) ⟨Nat.le_of_ble_eq_true rfl, Nat.le_of_ble_eq_true rfl⟩) (at_5 rfl) rfl rfl hl.1 rfl (Nat.le_of_ble_eq_true rfl) ⟨Nat.zero_le _, Nat.zero_le _⟩ dX9_readsNumber_15 (fun H locs hP hS => ?_)
        refine lv_bipush (v := 48) hx hb dX9_readsNumber_18 (by decide) ?_
        refine lv_bipush (v := 57) hx hb dX9_readsNumber_20 (by decide) ?_
        refine k_Sv (As := [.int q3, .int (48 : Int32), .int (57 : Int32)]) (rest := []) Z hK hP hS (t_X9_isIn l G hG q3 (48 : Int32) (57 : Int32) τ) (va_cwS 3 hts gX9_readsNumber_X9_isIn rfl rfl rfl (by decide +kernel) ⟨Nat.le_of_ble_eq_true rfl, Nat.le_of_ble_eq_true rfl⟩) rfl hl.1 rfl (Nat.le_of_ble_eq_true rfl) ⟨Nat.zero_le _, Nat.zero_le _⟩ dX9_readsNumber_22 (fun H locs hP hS => ?_)
        refine lv_if_ne (tgt := 30) hx hb dX9_readsNumber_25 (by decide) (fun c5 => ?_) (fun c5 => ?_)
        · have hF := ite_t (b2i_n0 c5) hF
          refine lv_aload_n hx hb dX9_readsNumber_30 rfl (lv_at hl 0 rfl) ?_
          refine va_get (ci := 5) (C := RX9) (T := TX9) (N := 21) (v := .ref (gA G 68)) hx hb hts inX9 hown hK.1 hP 61 (at_5 rfl) rfl 12 (by decide) w1 (fun _ h9 => h9) rfl dX9_readsNumber_31 ?_
          refine lv_iload_n hx hb dX9_readsNumber_34 rfl (lv_at hl 1 rfl) ?_
          refine lv_bipush (v := 10) hx hb dX9_readsNumber_35 (by decide) ?_
          refine lv_aload_n hx hb dX9_readsNumber_37 rfl (lv_at hl 0 rfl) ?_
          refine va_get (ci := 5) (C := RX9) (T := TX9) (N := 21) (v := .ref (gA G 68)) hx hb hts inX9 hown hK.1 hP 61 (at_5 rfl) rfl 12 (by decide) w1 (fun _ h9 => h9) rfl dX9_readsNumber_38 ?_
          refine lv_iload_n hx hb dX9_readsNumber_41 rfl (lv_at hl 1 rfl) ?_
          obtain ⟨b6, hF⟩ := ite_some hF
          refine va_iald hx hb hK.1 hP 68 0 (at_6 (rfl : kd 68 = 6) (rfl : ln 68 = 5)) rfl (inb_in b6) dX9_readsNumber_42 ?_
          refine lv_imul hx hb dX9_readsNumber_43 ?_
          refine lv_aload_n hx hb dX9_readsNumber_44 rfl (lv_at hl 0 rfl) ?_
          obtain ⟨q7, h8, hF⟩ := ob_some hF
          refine k_Vv (As := []) (rest := [.int ((10 : Int32) * (τ 68 x1.toNatClampNeg)), .int x1, .ref (gA G 68)]) Z hK hP hS (t_X9_here l G hG τ _ h8) (cwV 0 hts gX9_readsNumber_X9_here rfl rfl rfl (by decide +kernel) ⟨Nat.le_of_ble_eq_true rfl, Nat.le_of_ble_eq_true rfl⟩) (at_5 rfl) rfl rfl hl.1 rfl (Nat.le_of_ble_eq_true rfl) ⟨Nat.zero_le _, Nat.zero_le _⟩ dX9_readsNumber_45 (fun H locs hP hS => ?_)
          refine lv_iadd hx hb dX9_readsNumber_48 ?_
          refine lv_bipush (v := 48) hx hb dX9_readsNumber_49 (by decide) ?_
          refine lv_isub hx hb dX9_readsNumber_51 ?_
          obtain ⟨b9, hF⟩ := ite_some hF
          refine va_iast hx hb hK.1 hP (Dw.D hG) hS 68 0 (at_6 (rfl : kd 68 = 6) (rfl : ln 68 = 5)) rfl (inb_in b9) dX9_readsNumber_52 (fun H locs hP _ hS => ?_)
          have hP : Pw G (up τ 68 x1.toNatClampNeg ((((10 : Int32) * (τ 68 x1.toNatClampNeg)) + q7) - (48 : Int32))) H := Pw.of hP (set_6 (rfl : kd 68 = 6) (rfl : ln 68 = 5))
          refine lv_aload_n hx hb dX9_readsNumber_53 rfl (lv_at hl 0 rfl) ?_
          refine lv_dup hx hb dX9_readsNumber_54 rfl ?_
          refine va_get (ci := 5) (C := RX9) (T := TX9) (N := 21) (v := .int ((up τ 68 x1.toNatClampNeg ((((10 : Int32) * (τ 68 x1.toNatClampNeg)) + q7) - (48 : Int32))) 61 9)) hx hb hts inX9 hown hK.1 hP 61 (at_5 rfl) rfl 9 (by decide) w2 (fun _ h9 => h9) rfl dX9_readsNumber_55 ?_
          refine lv_iconst (v := 1) hx hb dX9_readsNumber_58 (by decide) ?_
          refine lv_iadd hx hb dX9_readsNumber_59 ?_
          refine va_put (ci := 5) (C := RX9) (T := TX9) (N := 21) (v := .int (((up τ 68 x1.toNatClampNeg ((((10 : Int32) * (τ 68 x1.toNatClampNeg)) + q7) - (48 : Int32))) 61 9) + (1 : Int32))) (ty := .int) hx hb hts inX9 tyX9 tyX9_ok nmX9 hown hK.1 hP (Dw.D hG) hS 61 (at_5 rfl) rfl 9 (by decide) w2 (fun _ h9 => h9) rfl (by decide +kernel) rfl rfl (Nat.le_of_ble_eq_true rfl) dX9_readsNumber_60 (fun H locs hP _ hS => ?_)
          have hP := Pw.of hP (set_5_9 rfl)
          refine lv_iinc (v := (v3 + (1 : Int32))) (lv' := [(3, .int (v3 + (1 : Int32))), (0, .ref (gA G 61)), (1, .int x1), (2, .int x2)]) hx hb dX9_readsNumber_63 hl (k := 3) rfl rfl (by decide) rfl (fun ls hl => ?_)
          refine lv_goto (tgt := 9) hx hb dX9_readsNumber_66 (by decide) ?_
          exact ih9 (v3 + (1 : Int32)) (up (up τ 68 x1.toNatClampNeg ((((10 : Int32) * (τ 68 x1.toNatClampNeg)) + q7) - (48 : Int32))) 61 9 (((up τ 68 x1.toNatClampNeg ((((10 : Int32) * (τ 68 x1.toNatClampNeg)) + q7) - (48 : Int32))) 61 9) + (1 : Int32))) _ _ hP hS ls (lv_sub hl [1, 2, 3, 0] rfl) hF
        · have hF := ite_f (b2i_e0 c5) hF
          refine lv_iconst (v := 0) hx hb dX9_readsNumber_28 (by decide) ?_
          exact e_zS (b := false) hx hb hr hP hS hlocks dX9_readsNumber_29 rfl hF
  refine lv_istore_n (lv' := [(3, .int (0 : Int32)), (0, .ref (gA G 61)), (1, .int x1), (2, .int x2)]) hx hb dX9_readsNumber_8 rfl hl (by decide) rfl (fun ls hl => ?_)
  exact J9 fu (0 : Int32) (up σ 68 x1.toNatClampNeg (0 : Int32)) _ _ hP hS ls (lv_sub hl [1, 2, 3, 0] rfl) hF
def f_X9_readsStatement_155 (v2 : Int32) (τ : St) : Option (Bool × St) := (if v2 = 0 then (some (false, τ)) else (ob (f_X9_here τ) (fun q4 => if q4 = (59 : Int32) then (some (true, up τ 61 9 ((τ 61 9) + (1 : Int32)))) else (some (false, τ)))))
theorem f_X9_readsStatement_155_e {v2 : Int32} {τ : St} : f_X9_readsStatement_155 v2 τ = (if v2 = 0 then (some (false, τ)) else (ob (f_X9_here τ) (fun q4 => if q4 = (59 : Int32) then (some (true, up τ 61 9 ((τ 61 9) + (1 : Int32)))) else (some (false, τ))))) := rfl
def f_X9_readsStatement_102 (z0 : Int32) (τ : St) : Option (Bool × St) := (f_X9_readsStatement_155 z0 τ)
theorem f_X9_readsStatement_102_e {z0 : Int32} {τ : St} : f_X9_readsStatement_102 z0 τ = (f_X9_readsStatement_155 z0 τ) := rfl
def f_X9_readsStatement_101 (τ : St) : Option (Bool × St) := (f_X9_readsStatement_102 (0 : Int32) τ)
theorem f_X9_readsStatement_101_e {τ : St} : f_X9_readsStatement_101 τ = (f_X9_readsStatement_102 (0 : Int32) τ) := rfl
def f_X9_readsStatement_139 (z0 : Int32) (τ : St) : Option (Bool × St) := (f_X9_readsStatement_155 z0 τ)
theorem f_X9_readsStatement_139_e {z0 : Int32} {τ : St} : f_X9_readsStatement_139 z0 τ = (f_X9_readsStatement_155 z0 τ) := rfl
def f_X9_readsStatement_138 (τ : St) : Option (Bool × St) := (f_X9_readsStatement_139 (0 : Int32) τ)
theorem f_X9_readsStatement_138_e {τ : St} : f_X9_readsStatement_138 τ = (f_X9_readsStatement_139 (0 : Int32) τ) := rfl
def f_X9_readsStatement (σ : St) : Option (Bool × St) := (ob (f_X9_here σ) (fun q1 => if q1 = (100 : Int32) then (ob (f_X9_readsNumber (0 : Int32) (1 : Int32) (up σ 61 9 ((σ 61 9) + (1 : Int32)))) (fun q8 => if q8.1 = true then (ob (f_X9_readsNumber (1 : Int32) (1 : Int32) q8.2) (fun q11 => if q11.1 = true then (ob (f_X9_readsNumber (2 : Int32) (3 : Int32) q11.2) (fun q14 => if q14.1 = true then (ob (f_X9_readsNumber (3 : Int32) (1 : Int32) q14.2) (fun q17 => if q17.1 = true then (ob (f_X9_readsNumber (4 : Int32) (2 : Int32) q17.2) (fun q20 => if q20.1 = true then (f_X9_readsStatement_102 (1 : Int32) q20.2) else f_X9_readsStatement_101 q20.2)) else f_X9_readsStatement_101 q17.2)) else f_X9_readsStatement_101 q14.2)) else f_X9_readsStatement_101 q11.2)) else f_X9_readsStatement_101 q8.2)) else if q1 = (115 : Int32) then (ob (f_X9_readsNumber (0 : Int32) (1 : Int32) (up σ 61 9 ((σ 61 9) + (1 : Int32)))) (fun q24 => if q24.1 = true then (ob (f_X9_readsNumber (1 : Int32) (1 : Int32) q24.2) (fun q27 => if q27.1 = true then (f_X9_readsStatement_139 (1 : Int32) q27.2) else f_X9_readsStatement_138 q27.2)) else f_X9_readsStatement_138 q24.2)) else if q1 = (116 : Int32) then (ob (f_X9_readsNumber (0 : Int32) (3 : Int32) (up σ 61 9 ((σ 61 9) + (1 : Int32)))) (fun q31 => f_X9_readsStatement_155 (b2i q31.1) q31.2)) else (some (false, up (up σ 61 9 ((σ 61 9) + (1 : Int32))) 61 9 (((up σ 61 9 ((σ 61 9) + (1 : Int32))) 61 9) - (1 : Int32))))))
set_option maxRecDepth 100000 in
set_option maxHeartbeats 4000000 in
theorem t_X9_readsStatement (l : Launch) (G : GT) (hG : Dw G) (σ : St) (o : Bool × St) (hF : f_X9_readsStatement σ = some o) : Ct l G yX9_readsStatement wsX9_readsStatement 2 45 [.ref (gA G 61)] σ (some (.int (b2i o.1))) o.2 := by
  refine Met.ofW (cc := cX9_readsStatement) (maxL := 3) (ret := (some .boolean)) (by decide) rfl ?_
  intro p e s m args below meth c s₁ B hml hv
  obtain ⟨rfl, hP, hK⟩ := hv
  have hx := B.exec
  have hb := B.bytes
  have hr := B.returns
  have hts := atoms_spec (ws := wsX9_readsStatement) B.pre
  have hown : s.vm.findClass RX9 = some m.cls := findClass_of_methodNamed B.named
  have hlocks := B.notSynchronized
  have Z : CallFix p m c cX9_readsStatement 3 s _ wsX9_readsStatement RX9 := ⟨hx, hb, hml, hown, hts⟩
  have hS : va_S (AG G) s.heap s.heap [] := va_S.rf
  have inX9 : ∀ w ∈ u_ws RX9 TX9 21, w ∈ wsX9_readsStatement := by decide +kernel
  have w1 := hts (.fieldLink RX9 95 "AlmanacOfTheYearGoneModel" "place" "I") (by decide +kernel)
  have hl := lv_entry ([.ref (gA G 61)]) (n := 3) (Nat.le_of_ble_eq_true rfl)
  rw [lg_entry_eq]
  generalize (lg_sl ([.ref (gA G 61)]) ++ List.replicate (3 - (lg_sl ([.ref (gA G 61)])).length) Slot.unset).toArray = ls at hl ⊢
  have hl : lv_has ls 3 [(0, .ref (gA G 61))] := hl
  unfold f_X9_readsStatement at hF
  refine lv_aload_n hx hb dX9_readsStatement_0 rfl (lv_at hl 0 rfl) ?_
  obtain ⟨q1, h2, hF⟩ := ob_some hF
  refine k_Vv (As := []) (rest := []) Z hK hP hS (t_X9_here l G hG σ _ h2) (cwV 0 hts gX9_readsStatement_X9_here rfl rfl rfl (by decide +kernel) ⟨Nat.le_of_ble_eq_true rfl, Nat.le_of_ble_eq_true rfl⟩) (at_5 rfl) rfl rfl hl.1 rfl (Nat.le_of_ble_eq_true rfl) ⟨Nat.zero_le _, Nat.zero_le _⟩ dX9_readsStatement_1 (fun H locs hP hS => ?_)
  refine lv_istore_n (lv' := [(1, .int q1), (0, .ref (gA G 61))]) hx hb dX9_readsStatement_4 rfl hl (by decide) rfl (fun ls hl => ?_)
  refine lv_aload_n hx hb dX9_readsStatement_5 rfl (lv_at hl 1 rfl) ?_
  refine lv_dup hx hb dX9_readsStatement_6 rfl ?_
  refine va_get (ci := 5) (C := RX9) (T := TX9) (N := 21) (v := .int (σ 61 9)) hx hb hts inX9 hown hK.1 hP 61 (at_5 rfl) rfl 9 (by decide) w1 (fun _ h9 => h9) rfl dX9_readsStatement_7 ?_
  refine lv_iconst (v := 1) hx hb dX9_readsStatement_10 (by decide) ?_
  refine lv_iadd hx hb dX9_readsStatement_11 ?_
  refine va_put (ci := 5) (C := RX9) (T := TX9) (N := 21) (v := .int ((σ 61 9) + (1 : Int32))) (ty := .int) hx hb hts inX9 tyX9 tyX9_ok nmX9 hown hK.1 hP (Dw.D hG) hS 61 (at_5 rfl) rfl 9 (by decide) w1 (fun _ h9 => h9) rfl (by decide +kernel) rfl rfl (Nat.le_of_ble_eq_true rfl) dX9_readsStatement_12 (fun H locs hP _ hS => ?_)
  have hP := Pw.of hP (set_5_9 rfl)
  refine lv_iload_n hx hb dX9_readsStatement_15 rfl (lv_at hl 0 rfl) ?_
  have J155 : ∀ (v2 : Int32) (τ : St) (H : Heap) (locs : List Loc) (hP : Pw G τ H) (hS : va_S (AG G) s.heap H locs) (ls : Array Slot) (hl : lv_has ls 3 [(0, .ref (gA G 61)), (2, .int v2)]) (hF : f_X9_readsStatement_155 v2 τ = some o), W p l e (headSpec wsX9_readsStatement ({ frames := 2, cells := 0, slots := 0, locals := 45 })).room s m ([.ref (gA G 61)] : List Value).toArray below meth c H locs 0 0 (MQ below (qR G (some (.int (b2i o.1))) o.2) ([.ref (gA G 61)] : List Value).toArray s 0 0 (AG G)) (F0 m 155 ls []) := by
    intro v2 τ H locs hP hS ls hl hF
    rw [f_X9_readsStatement_155_e] at hF
    refine lv_iload_n hx hb dX9_readsStatement_155 rfl (lv_at hl 1 rfl) ?_
    refine lv_if_eq (tgt := 168) hx hb dX9_readsStatement_156 (by decide) (fun c3 => ?_) (fun c3 => ?_)
    · have hF := ite_t c3 hF
      refine lv_iconst (v := 0) hx hb dX9_readsStatement_168 (by decide) ?_
      exact e_zS (b := false) hx hb hr hP hS hlocks dX9_readsStatement_169 rfl hF
    · have hF := ite_f c3 hF
      refine lv_aload_n hx hb dX9_readsStatement_159 rfl (lv_at hl 0 rfl) ?_
      obtain ⟨q4, h5, hF⟩ := ob_some hF
      refine k_Vv (As := []) (rest := []) Z hK hP hS (t_X9_here l G hG τ _ h5) (cwV 0 hts gX9_readsStatement_X9_here rfl rfl rfl (by decide +kernel) ⟨Nat.le_of_ble_eq_true rfl, Nat.le_of_ble_eq_true rfl⟩) (at_5 rfl) rfl rfl hl.1 rfl (Nat.le_of_ble_eq_true rfl) ⟨Nat.zero_le _, Nat.zero_le _⟩ dX9_readsStatement_160 (fun H locs hP hS => ?_)
      refine lv_bipush (v := 59) hx hb dX9_readsStatement_163 (by decide) ?_
      refine lv_icmp_eq (tgt := 170) hx hb dX9_readsStatement_165 (by decide) (fun c6 => ?_) (fun c6 => ?_)
      · have hF := ite_t c6 hF
        refine lv_aload_n hx hb dX9_readsStatement_170 rfl (lv_at hl 0 rfl) ?_
        refine lv_dup hx hb dX9_readsStatement_171 rfl ?_
        refine va_get (ci := 5) (C := RX9) (T := TX9) (N := 21) (v := .int (τ 61 9)) hx hb hts inX9 hown hK.1 hP 61 (at_5 rfl) rfl 9 (by decide) w1 (fun _ h9 => h9) rfl dX9_readsStatement_172 ?_
        refine lv_iconst (v := 1) hx hb dX9_readsStatement_175 (by decide) ?_
        refine lv_iadd hx hb dX9_readsStatement_176 ?_
        refine va_put (ci := 5) (C := RX9) (T := TX9) (N := 21) (v := .int ((τ 61 9) + (1 : Int32))) (ty := .int) hx hb hts inX9 tyX9 tyX9_ok nmX9 hown hK.1 hP (Dw.D hG) hS 61 (at_5 rfl) rfl 9 (by decide) w1 (fun _ h9 => h9) rfl (by decide +kernel) rfl rfl (Nat.le_of_ble_eq_true rfl) dX9_readsStatement_177 (fun H locs hP _ hS => ?_)
        have hP := Pw.of hP (set_5_9 rfl)
        refine lv_iconst (v := 1) hx hb dX9_readsStatement_180 (by decide) ?_
        exact e_zS (b := true) hx hb hr hP hS hlocks dX9_readsStatement_181 rfl hF
      · have hF := ite_f c6 hF
        refine lv_iconst (v := 0) hx hb dX9_readsStatement_168 (by decide) ?_
        exact e_zS (b := false) hx hb hr hP hS hlocks dX9_readsStatement_169 rfl hF
  by_cases c7 : q1 = (100 : Int32)
  · have hF := ite_t c7 hF
    refine lv_lookup (off := 36) (tgt := 52) hx hb dX9_readsStatement_16 (by decide) (by rw [c7]; rfl) (by decide) ?_
    refine lv_aload_n hx hb dX9_readsStatement_52 rfl (lv_at hl 1 rfl) ?_
    refine lv_iconst (v := 0) hx hb dX9_readsStatement_53 (by decide) ?_
    refine lv_iconst (v := 1) hx hb dX9_readsStatement_54 (by decide) ?_
    obtain ⟨q8, h9, hF⟩ := ob_some hF
    refine k_Vv (As := [.int (0 : Int32), .int (1 : Int32)]) (rest := []) Z hK hP hS (t_X9_readsNumber l G hG (0 : Int32) (1 : Int32) (up σ 61 9 ((σ 61 9) + (1 : Int32))) _ h9) (cwV 2 hts gX9_readsStatement_X9_readsNumber rfl rfl rfl (by decide +kernel) ⟨Nat.le_of_ble_eq_true rfl, Nat.le_of_ble_eq_true rfl⟩) (at_5 rfl) rfl rfl hl.1 rfl (Nat.le_of_ble_eq_true rfl) ⟨Nat.zero_le _, Nat.zero_le _⟩ dX9_readsStatement_55 (fun H locs hP hS => ?_)
    have J102 : ∀ (z0 : Int32) (τ : St) (H : Heap) (locs : List Loc) (hP : Pw G τ H) (hS : va_S (AG G) s.heap H locs) (ls : Array Slot) (hl : lv_has ls 3 [(0, .ref (gA G 61))]) (hF : f_X9_readsStatement_102 z0 τ = some o), W p l e (headSpec wsX9_readsStatement ({ frames := 2, cells := 0, slots := 0, locals := 45 })).room s m ([.ref (gA G 61)] : List Value).toArray below meth c H locs 0 0 (MQ below (qR G (some (.int (b2i o.1))) o.2) ([.ref (gA G 61)] : List Value).toArray s 0 0 (AG G)) (F0 m 102 ls [.int z0]) := by
      intro z0 τ H locs hP hS ls hl hF
      rw [f_X9_readsStatement_102_e] at hF
      refine lv_istore_n (lv' := [(2, .int z0), (0, .ref (gA G 61))]) hx hb dX9_readsStatement_102 rfl hl (by decide) rfl (fun ls hl => ?_)
      refine lv_goto (tgt := 155) hx hb dX9_readsStatement_103 (by decide) ?_
      exact J155 z0 τ _ _ hP hS ls (lv_sub hl [1, 0] rfl) hF
    have J101 : ∀ (τ : St) (H : Heap) (locs : List Loc) (hP : Pw G τ H) (hS : va_S (AG G) s.heap H locs) (ls : Array Slot) (hl : lv_has ls 3 [(0, .ref (gA G 61))]) (hF : f_X9_readsStatement_101 τ = some o), W p l e (headSpec wsX9_readsStatement ({ frames := 2, cells := 0, slots := 0, locals := 45 })).room s m ([.ref (gA G 61)] : List Value).toArray below meth c H locs 0 0 (MQ below (qR G (some (.int (b2i o.1))) o.2) ([.ref (gA G 61)] : List Value).toArray s 0 0 (AG G)) (F0 m 101 ls []) := by
      intro τ H locs hP hS ls hl hF
      rw [f_X9_readsStatement_101_e] at hF
      refine lv_iconst (v := 0) hx hb dX9_readsStatement_101 (by decide) ?_
      exact J102 (0 : Int32) τ _ _ hP hS ls (lv_sub hl [0] rfl) hF
    refine lv_if_eq (tgt := 101) hx hb dX9_readsStatement_58 (by decide) (fun c10 => ?_) (fun c10 => ?_)
    · have hF := ite_f (b2i_e0 c10) hF
      exact J101 q8.2 _ _ hP hS ls (lv_sub hl [1] rfl) hF
    · have hF := ite_t (b2i_n0 c10) hF
      refine lv_aload_n hx hb dX9_readsStatement_61 rfl (lv_at hl 1 rfl) ?_
      refine lv_iconst (v := 1) hx hb dX9_readsStatement_62 (by decide) ?_
      refine lv_iconst (v := 1) hx hb dX9_readsStatement_63 (by decide) ?_
      obtain ⟨q11, h12, hF⟩ := ob_some hF
      refine k_Vv (As := [.int (1 : Int32), .int (1 : Int32)]) (rest := []) Z hK hP hS (t_X9_readsNumber l G hG (1 : Int32) (1 : Int32) q8.2 _ h12) (cwV 2 hts gX9_readsStatement_X9_readsNumber rfl rfl rfl (by decide +kernel) ⟨Nat.le_of_ble_eq_true rfl, Nat.le_of_ble_eq_true rfl⟩) (at_5 rfl) rfl rfl hl.1 rfl (Nat.le_of_ble_eq_true rfl) ⟨Nat.zero_le _, Nat.zero_le _⟩ dX9_readsStatement_64 (fun H locs hP hS => ?_)
      refine lv_if_eq (tgt := 101) hx hb dX9_readsStatement_67 (by decide) (fun c13 => ?_) (fun c13 => ?_)
      · have hF := ite_f (b2i_e0 c13) hF
        exact J101 q11.2 _ _ hP hS ls (lv_sub hl [1] rfl) hF
      · have hF := ite_t (b2i_n0 c13) hF
        refine lv_aload_n hx hb dX9_readsStatement_70 rfl (lv_at hl 1 rfl) ?_
        refine lv_iconst (v := 2) hx hb dX9_readsStatement_71 (by decide) ?_
        refine lv_iconst (v := 3) hx hb dX9_readsStatement_72 (by decide) ?_
        obtain ⟨q14, h15, hF⟩ := ob_some hF
        refine k_Vv (As := [.int (2 : Int32), .int (3 : Int32)]) (rest := []) Z hK hP hS (t_X9_readsNumber l G hG (2 : Int32) (3 : Int32) q11.2 _ h15) (cwV 2 hts gX9_readsStatement_X9_readsNumber rfl rfl rfl (by decide +kernel) ⟨Nat.le_of_ble_eq_true rfl, Nat.le_of_ble_eq_true rfl⟩) (at_5 rfl) rfl rfl hl.1 rfl (Nat.le_of_ble_eq_true rfl) ⟨Nat.zero_le _, Nat.zero_le _⟩ dX9_readsStatement_73 (fun H locs hP hS => ?_)
        refine lv_if_eq (tgt := 101) hx hb dX9_readsStatement_76 (by decide) (fun c16 => ?_) (fun c16 => ?_)
        · have hF := ite_f (b2i_e0 c16) hF
          exact J101 q14.2 _ _ hP hS ls (lv_sub hl [1] rfl) hF
        · have hF := ite_t (b2i_n0 c16) hF
          refine lv_aload_n hx hb dX9_readsStatement_79 rfl (lv_at hl 1 rfl) ?_
          refine lv_iconst (v := 3) hx hb dX9_readsStatement_80 (by decide) ?_
          refine lv_iconst (v := 1) hx hb dX9_readsStatement_81 (by decide) ?_
          obtain ⟨q17, h18, hF⟩ := ob_some hF
          refine k_Vv (As := [.int (3 : Int32), .int (1 : Int32)]) (rest := []) Z hK hP hS (t_X9_readsNumber l G hG (3 : Int32) (1 : Int32) q14.2 _ h18) (cwV 2 hts gX9_readsStatement_X9_readsNumber rfl rfl rfl (by decide +kernel) ⟨Nat.le_of_ble_eq_true rfl, Nat.le_of_ble_eq_true rfl⟩) (at_5 rfl) rfl rfl hl.1 rfl (Nat.le_of_ble_eq_true rfl) ⟨Nat.zero_le _, Nat.zero_le _⟩ dX9_readsStatement_82 (fun H locs hP hS => ?_)
          refine lv_if_eq (tgt := 101) hx hb dX9_readsStatement_85 (by decide) (fun c19 => ?_) (fun c19 => ?_)
          · have hF := ite_f (b2i_e0 c19) hF
            exact J101 q17.2 _ _ hP hS ls (lv_sub hl [1] rfl) hF
          · have hF := ite_t (b2i_n0 c19) hF
            refine lv_aload_n hx hb dX9_readsStatement_88 rfl (lv_at hl 1 rfl) ?_
            refine lv_iconst (v := 4) hx hb dX9_readsStatement_89 (by decide) ?_
            refine lv_iconst (v := 2) hx hb dX9_readsStatement_90 (by decide) ?_
            obtain ⟨q20, h21, hF⟩ := ob_some hF
            refine k_Vv (As := [.int (4 : Int32), .int (2 : Int32)]) (rest := []) Z hK hP hS (t_X9_readsNumber l G hG (4 : Int32) (2 : Int32) q17.2 _ h21) (cwV 2 hts gX9_readsStatement_X9_readsNumber rfl rfl rfl (by decide +kernel) ⟨Nat.le_of_ble_eq_true rfl, Nat.le_of_ble_eq_true rfl⟩) (at_5 rfl) rfl rfl hl.1 rfl (Nat.le_of_ble_eq_true rfl) ⟨Nat.zero_le _, Nat.zero_le _⟩ dX9_readsStatement_91 (fun H locs hP hS => ?_)
            refine lv_if_eq (tgt := 101) hx hb dX9_readsStatement_94 (by decide) (fun c22 => ?_) (fun c22 => ?_)
            · have hF := ite_f (b2i_e0 c22) hF
              exact J101 q20.2 _ _ hP hS ls (lv_sub hl [1] rfl) hF
            · have hF := ite_t (b2i_n0 c22) hF
              refine lv_iconst (v := 1) hx hb dX9_readsStatement_97 (by decide) ?_
              refine lv_goto (tgt := 102) hx hb dX9_readsStatement_98 (by decide) ?_
              exact J102 (1 : Int32) q20.2 _ _ hP hS ls (lv_sub hl [1] rfl) hF
  · have hF := ite_f c7 hF
    by_cases c23 : q1 = (115 : Int32)
    · have hF := ite_t c23 hF
      refine lv_lookup (off := 100) (tgt := 116) hx hb dX9_readsStatement_16 (by decide) (by rw [c23]; rfl) (by decide) ?_
      refine lv_aload_n hx hb dX9_readsStatement_116 rfl (lv_at hl 1 rfl) ?_
      refine lv_iconst (v := 0) hx hb dX9_readsStatement_117 (by decide) ?_
      refine lv_iconst (v := 1) hx hb dX9_readsStatement_118 (by decide) ?_
      obtain ⟨q24, h25, hF⟩ := ob_some hF
      refine k_Vv (As := [.int (0 : Int32), .int (1 : Int32)]) (rest := []) Z hK hP hS (t_X9_readsNumber l G hG (0 : Int32) (1 : Int32) (up σ 61 9 ((σ 61 9) + (1 : Int32))) _ h25) (cwV 2 hts gX9_readsStatement_X9_readsNumber rfl rfl rfl (by decide +kernel) ⟨Nat.le_of_ble_eq_true rfl, Nat.le_of_ble_eq_true rfl⟩) (at_5 rfl) rfl rfl hl.1 rfl (Nat.le_of_ble_eq_true rfl) ⟨Nat.zero_le _, Nat.zero_le _⟩ dX9_readsStatement_119 (fun H locs hP hS => ?_)
      have J139 : ∀ (z0 : Int32) (τ : St) (H : Heap) (locs : List Loc) (hP : Pw G τ H) (hS : va_S (AG G) s.heap H locs) (ls : Array Slot) (hl : lv_has ls 3 [(0, .ref (gA G 61))]) (hF : f_X9_readsStatement_139 z0 τ = some o), W p l e (headSpec wsX9_readsStatement ({ frames := 2, cells := 0, slots := 0, locals := 45 })).room s m ([.ref (gA G 61)] : List Value).toArray below meth c H locs 0 0 (MQ below (qR G (some (.int (b2i o.1))) o.2) ([.ref (gA G 61)] : List Value).toArray s 0 0 (AG G)) (F0 m 139 ls [.int z0]) := by
        intro z0 τ H locs hP hS ls hl hF
        rw [f_X9_readsStatement_139_e] at hF
        refine lv_istore_n (lv' := [(2, .int z0), (0, .ref (gA G 61))]) hx hb dX9_readsStatement_139 rfl hl (by decide) rfl (fun ls hl => ?_)
        refine lv_goto (tgt := 155) hx hb dX9_readsStatement_140 (by decide) ?_
        exact J155 z0 τ _ _ hP hS ls (lv_sub hl [1, 0] rfl) hF
      have J138 : ∀ (τ : St) (H : Heap) (locs : List Loc) (hP : Pw G τ H) (hS : va_S (AG G) s.heap H locs) (ls : Array Slot) (hl : lv_has ls 3 [(0, .ref (gA G 61))]) (hF : f_X9_readsStatement_138 τ = some o), W p l e (headSpec wsX9_readsStatement ({ frames := 2, cells := 0, slots := 0, locals := 45 })).room s m ([.ref (gA G 61)] : List Value).toArray below meth c H locs 0 0 (MQ below (qR G (some (.int (b2i o.1))) o.2) ([.ref (gA G 61)] : List Value).toArray s 0 0 (AG G)) (F0 m 138 ls []) := by
        intro τ H locs hP hS ls hl hF
        rw [f_X9_readsStatement_138_e] at hF
        refine lv_iconst (v := 0) hx hb dX9_readsStatement_138 (by decide) ?_
        exact J139 (0 : Int32) τ _ _ hP hS ls (lv_sub hl [0] rfl) hF
      refine lv_if_eq (tgt := 138) hx hb dX9_readsStatement_122 (by decide) (fun c26 => ?_) (fun c26 => ?_)
      · have hF := ite_f (b2i_e0 c26) hF
        exact J138 q24.2 _ _ hP hS ls (lv_sub hl [1] rfl) hF
      · have hF := ite_t (b2i_n0 c26) hF
        refine lv_aload_n hx hb dX9_readsStatement_125 rfl (lv_at hl 1 rfl) ?_
        refine lv_iconst (v := 1) hx hb dX9_readsStatement_126 (by decide) ?_
        refine lv_iconst (v := 1) hx hb dX9_readsStatement_127 (by decide) ?_
        obtain ⟨q27, h28, hF⟩ := ob_some hF
        refine k_Vv (As := [.int (1 : Int32), .int (1 : Int32)]) (rest := []) Z hK hP hS (t_X9_readsNumber l G hG (1 : Int32) (1 : Int32) q24.2 _ h28) (cwV 2 hts gX9_readsStatement_X9_readsNumber rfl rfl rfl (by decide +kernel) ⟨Nat.le_of_ble_eq_true rfl, Nat.le_of_ble_eq_true rfl⟩) (at_5 rfl) rfl rfl hl.1 rfl (Nat.le_of_ble_eq_true rfl) ⟨Nat.zero_le _, Nat.zero_le _⟩ dX9_readsStatement_128 (fun H locs hP hS => ?_)
        refine lv_if_eq (tgt := 138) hx hb dX9_readsStatement_131 (by decide) (fun c29 => ?_) (fun c29 => ?_)
        · have hF := ite_f (b2i_e0 c29) hF
          exact J138 q27.2 _ _ hP hS ls (lv_sub hl [1] rfl) hF
        · have hF := ite_t (b2i_n0 c29) hF
          refine lv_iconst (v := 1) hx hb dX9_readsStatement_134 (by decide) ?_
          refine lv_goto (tgt := 139) hx hb dX9_readsStatement_135 (by decide) ?_
          exact J139 (1 : Int32) q27.2 _ _ hP hS ls (lv_sub hl [1] rfl) hF
    · have hF := ite_f c23 hF
      by_cases c30 : q1 = (116 : Int32)
      · have hF := ite_t c30 hF
        refine lv_lookup (off := 90) (tgt := 106) hx hb dX9_readsStatement_16 (by decide) (by rw [c30]; rfl) (by decide) ?_
        refine lv_aload_n hx hb dX9_readsStatement_106 rfl (lv_at hl 1 rfl) ?_
        refine lv_iconst (v := 0) hx hb dX9_readsStatement_107 (by decide) ?_
        refine lv_iconst (v := 3) hx hb dX9_readsStatement_108 (by decide) ?_
        obtain ⟨q31, h32, hF⟩ := ob_some hF
        refine k_Vv (As := [.int (0 : Int32), .int (3 : Int32)]) (rest := []) Z hK hP hS (t_X9_readsNumber l G hG (0 : Int32) (3 : Int32) (up σ 61 9 ((σ 61 9) + (1 : Int32))) _ h32) (cwV 2 hts gX9_readsStatement_X9_readsNumber rfl rfl rfl (by decide +kernel) ⟨Nat.le_of_ble_eq_true rfl, Nat.le_of_ble_eq_true rfl⟩) (at_5 rfl) rfl rfl hl.1 rfl (Nat.le_of_ble_eq_true rfl) ⟨Nat.zero_le _, Nat.zero_le _⟩ dX9_readsStatement_109 (fun H locs hP hS => ?_)
        refine lv_istore_n (lv' := [(2, .int (b2i q31.1)), (1, .int q1), (0, .ref (gA G 61))]) hx hb dX9_readsStatement_112 rfl hl (by decide) rfl (fun ls hl => ?_)
        refine lv_goto (tgt := 155) hx hb dX9_readsStatement_113 (by decide) ?_
        exact J155 (b2i q31.1) q31.2 _ _ hP hS ls (lv_sub hl [2, 0] rfl) hF
      · have hF := ite_f c30 hF
        refine lv_lookup (off := 127) (tgt := 143) hx hb dX9_readsStatement_16 (by decide) (by show Op.lookupswitch.offset [(100, 36), (115, 100), (116, 90)] _ _ = _; rw [lv_osw c7 (by decide : ((100 : Int32)).toInt = 100), lv_osw c23 (by decide : ((115 : Int32)).toInt = 115), lv_osw c30 (by decide : ((116 : Int32)).toInt = 116)]; rfl) (by decide) ?_
        refine lv_aload_n hx hb dX9_readsStatement_143 rfl (lv_at hl 1 rfl) ?_
        refine lv_dup hx hb dX9_readsStatement_144 rfl ?_
        refine va_get (ci := 5) (C := RX9) (T := TX9) (N := 21) (v := .int ((up σ 61 9 ((σ 61 9) + (1 : Int32))) 61 9)) hx hb hts inX9 hown hK.1 hP 61 (at_5 rfl) rfl 9 (by decide) w1 (fun _ h9 => h9) rfl dX9_readsStatement_145 ?_
        refine lv_iconst (v := 1) hx hb dX9_readsStatement_148 (by decide) ?_
        refine lv_isub hx hb dX9_readsStatement_149 ?_
        refine va_put (ci := 5) (C := RX9) (T := TX9) (N := 21) (v := .int (((up σ 61 9 ((σ 61 9) + (1 : Int32))) 61 9) - (1 : Int32))) (ty := .int) hx hb hts inX9 tyX9 tyX9_ok nmX9 hown hK.1 hP (Dw.D hG) hS 61 (at_5 rfl) rfl 9 (by decide) w1 (fun _ h9 => h9) rfl (by decide +kernel) rfl rfl (Nat.le_of_ble_eq_true rfl) dX9_readsStatement_150 (fun H locs hP _ hS => ?_)
        have hP := Pw.of hP (set_5_9 rfl)
        refine lv_iconst (v := 0) hx hb dX9_readsStatement_153 (by decide) ?_
        exact e_zS (b := false) hx hb hr hP hS hlocks dX9_readsStatement_154 rfl hF
def f_X9_adds (i0 : Nat) (x1 : Int32) (x2 : Int32) (x3 : Int32) (x4 : Int32) (x5 : Int32) (σ : St) : Option St := (if inb (f_X9_of (σ i0 0) (0 : Int32)) 52 then if inb (f_X9_of (σ i0 0) (1 : Int32)) 52 then if inb (f_X9_of (σ i0 0) (2 : Int32)) 52 then if inb (f_X9_of (σ i0 0) (3 : Int32)) 52 then if inb (f_X9_of (σ i0 0) (4 : Int32)) 52 then some (up (up (up (up (up (up σ i0 ((f_X9_of (σ i0 0) (0 : Int32)).toNatClampNeg) x1) i0 ((f_X9_of (σ i0 0) (1 : Int32)).toNatClampNeg) x2) i0 ((f_X9_of (σ i0 0) (2 : Int32)).toNatClampNeg) x3) i0 ((f_X9_of (σ i0 0) (3 : Int32)).toNatClampNeg) x4) i0 ((f_X9_of (σ i0 0) (4 : Int32)).toNatClampNeg) (x5 &&& (((1 : Int32) <<< (x4 &&& 31)) ^^^ (-1 : Int32)))) i0 0 (((up (up (up (up (up σ i0 ((f_X9_of (σ i0 0) (0 : Int32)).toNatClampNeg) x1) i0 ((f_X9_of (σ i0 0) (1 : Int32)).toNatClampNeg) x2) i0 ((f_X9_of (σ i0 0) (2 : Int32)).toNatClampNeg) x3) i0 ((f_X9_of (σ i0 0) (3 : Int32)).toNatClampNeg) x4) i0 ((f_X9_of (σ i0 0) (4 : Int32)).toNatClampNeg) (x5 &&& (((1 : Int32) <<< (x4 &&& 31)) ^^^ (-1 : Int32)))) i0 0) + (1 : Int32))) else none else none else none else none else none)
set_option maxRecDepth 100000 in
set_option maxHeartbeats 4000000 in
theorem t_X9_adds (l : Launch) (G : GT) (hG : Dw G) (i0 : Nat) (x1 : Int32) (x2 : Int32) (x3 : Int32) (x4 : Int32) (x5 : Int32) (hk0 : kd i0 = 6 ∧ ln i0 = 52) (σ : St) (o : St) (hF : f_X9_adds i0 x1 x2 x3 x4 x5 σ = some o) : Ct l G yX9_adds wsX9_adds 1 21 [.ref (gA G i0), .int x1, .int x2, .int x3, .int x4, .int x5] σ none o := by
  refine Met.ofW (cc := cX9_adds) (maxL := 7) (ret := none) (by decide) rfl ?_
  intro p e s m args below meth c s₁ B hml hv
  obtain ⟨rfl, hP, hK⟩ := hv
  have hx := B.exec
  have hb := B.bytes
  have hr := B.returns
  have hts := atoms_spec (ws := wsX9_adds) B.pre
  have hown : s.vm.findClass RX9 = some m.cls := findClass_of_methodNamed B.named
  have hlocks := B.notSynchronized
  have Z : CallFix p m c cX9_adds 7 s _ wsX9_adds RX9 := ⟨hx, hb, hml, hown, hts⟩
  have hS : va_S (AG G) s.heap s.heap [] := va_S.rf
  have hl := lv_entry ([.ref (gA G i0), .int x1, .int x2, .int x3, .int x4, .int x5]) (n := 7) (Nat.le_of_ble_eq_true rfl)
  rw [lg_entry_eq]
  generalize (lg_sl ([.ref (gA G i0), .int x1, .int x2, .int x3, .int x4, .int x5]) ++ List.replicate (7 - (lg_sl ([.ref (gA G i0), .int x1, .int x2, .int x3, .int x4, .int x5])).length) Slot.unset).toArray = ls at hl ⊢
  have hl : lv_has ls 7 [(0, .ref (gA G i0)), (1, .int x1), (2, .int x2), (3, .int x3), (4, .int x4), (5, .int x5)] := hl
  unfold f_X9_adds at hF
  refine lv_aload_n hx hb dX9_adds_0 rfl (lv_at hl 0 rfl) ?_
  refine lv_iconst (v := 0) hx hb dX9_adds_1 (by decide) ?_
  refine va_iald hx hb hK.1 hP i0 0 (at_6 hk0.1 hk0.2) rfl (inb_in (by decide)) dX9_adds_2 ?_
  refine W.eq (g2 := F0 m 3 ls ([.int (σ i0 0)])) rfl ?_
  refine lv_istore (lv' := [(6, .int (σ i0 0)), (0, .ref (gA G i0)), (1, .int x1), (2, .int x2), (3, .int x3), (4, .int x4), (5, .int x5)]) hx hb dX9_adds_3 hl (by decide) rfl (fun ls hl => ?_)
  refine lv_aload_n hx hb dX9_adds_5 rfl (lv_at hl 1 rfl) ?_
  refine lv_iload hx hb dX9_adds_6 (lv_at hl 0 rfl) ?_
  refine lv_iconst (v := 0) hx hb dX9_adds_8 (by decide) ?_
  refine k_Sv (As := [.int (σ i0 0), .int (0 : Int32)]) (rest := [.ref (gA G i0)]) Z hK hP hS (t_X9_of l G hG (σ i0 0) (0 : Int32) σ) (va_cwS 2 hts gX9_adds_X9_of rfl rfl rfl (by decide +kernel) ⟨Nat.le_of_ble_eq_true rfl, Nat.le_of_ble_eq_true rfl⟩) rfl hl.1 rfl (Nat.le_of_ble_eq_true rfl) ⟨Nat.zero_le _, Nat.zero_le _⟩ dX9_adds_9 (fun H locs hP hS => ?_)
  refine lv_iload_n hx hb dX9_adds_12 rfl (lv_at hl 2 rfl) ?_
  obtain ⟨b1, hF⟩ := ite_some hF
  refine va_iast hx hb hK.1 hP (Dw.D hG) hS i0 0 (at_6 hk0.1 hk0.2) rfl (inb_in b1) dX9_adds_13 (fun H locs hP _ hS => ?_)
  have hP : Pw G (up σ i0 ((f_X9_of (σ i0 0) (0 : Int32)).toNatClampNeg) x1) H := Pw.of hP (set_6 hk0.1 hk0.2)
  refine lv_aload_n hx hb dX9_adds_14 rfl (lv_at hl 1 rfl) ?_
  refine lv_iload hx hb dX9_adds_15 (lv_at hl 0 rfl) ?_
  refine lv_iconst (v := 1) hx hb dX9_adds_17 (by decide) ?_
  refine k_Sv (As := [.int (σ i0 0), .int (1 : Int32)]) (rest := [.ref (gA G i0)]) Z hK hP hS (t_X9_of l G hG (σ i0 0) (1 : Int32) (up σ i0 ((f_X9_of (σ i0 0) (0 : Int32)).toNatClampNeg) x1)) (va_cwS 2 hts gX9_adds_X9_of rfl rfl rfl (by decide +kernel) ⟨Nat.le_of_ble_eq_true rfl, Nat.le_of_ble_eq_true rfl⟩) rfl hl.1 rfl (Nat.le_of_ble_eq_true rfl) ⟨Nat.zero_le _, Nat.zero_le _⟩ dX9_adds_18 (fun H locs hP hS => ?_)
  refine lv_iload_n hx hb dX9_adds_21 rfl (lv_at hl 3 rfl) ?_
  obtain ⟨b2, hF⟩ := ite_some hF
  refine va_iast hx hb hK.1 hP (Dw.D hG) hS i0 0 (at_6 hk0.1 hk0.2) rfl (inb_in b2) dX9_adds_22 (fun H locs hP _ hS => ?_)
  have hP : Pw G (up (up σ i0 ((f_X9_of (σ i0 0) (0 : Int32)).toNatClampNeg) x1) i0 ((f_X9_of (σ i0 0) (1 : Int32)).toNatClampNeg) x2) H := Pw.of hP (set_6 hk0.1 hk0.2)
  refine lv_aload_n hx hb dX9_adds_23 rfl (lv_at hl 1 rfl) ?_
  refine lv_iload hx hb dX9_adds_24 (lv_at hl 0 rfl) ?_
  refine lv_iconst (v := 2) hx hb dX9_adds_26 (by decide) ?_
  refine k_Sv (As := [.int (σ i0 0), .int (2 : Int32)]) (rest := [.ref (gA G i0)]) Z hK hP hS (t_X9_of l G hG (σ i0 0) (2 : Int32) (up (up σ i0 ((f_X9_of (σ i0 0) (0 : Int32)).toNatClampNeg) x1) i0 ((f_X9_of (σ i0 0) (1 : Int32)).toNatClampNeg) x2)) (va_cwS 2 hts gX9_adds_X9_of rfl rfl rfl (by decide +kernel) ⟨Nat.le_of_ble_eq_true rfl, Nat.le_of_ble_eq_true rfl⟩) rfl hl.1 rfl (Nat.le_of_ble_eq_true rfl) ⟨Nat.zero_le _, Nat.zero_le _⟩ dX9_adds_27 (fun H locs hP hS => ?_)
  refine lv_iload_n hx hb dX9_adds_30 rfl (lv_at hl 4 rfl) ?_
  obtain ⟨b3, hF⟩ := ite_some hF
  refine va_iast hx hb hK.1 hP (Dw.D hG) hS i0 0 (at_6 hk0.1 hk0.2) rfl (inb_in b3) dX9_adds_31 (fun H locs hP _ hS => ?_)
  have hP : Pw G (up (up (up σ i0 ((f_X9_of (σ i0 0) (0 : Int32)).toNatClampNeg) x1) i0 ((f_X9_of (σ i0 0) (1 : Int32)).toNatClampNeg) x2) i0 ((f_X9_of (σ i0 0) (2 : Int32)).toNatClampNeg) x3) H := Pw.of hP (set_6 hk0.1 hk0.2)
  refine lv_aload_n hx hb dX9_adds_32 rfl (lv_at hl 1 rfl) ?_
  refine lv_iload hx hb dX9_adds_33 (lv_at hl 0 rfl) ?_
  refine lv_iconst (v := 3) hx hb dX9_adds_35 (by decide) ?_
  refine k_Sv (As := [.int (σ i0 0), .int (3 : Int32)]) (rest := [.ref (gA G i0)]) Z hK hP hS (t_X9_of l G hG (σ i0 0) (3 : Int32) (up (up (up σ i0 ((f_X9_of (σ i0 0) (0 : Int32)).toNatClampNeg) x1) i0 ((f_X9_of (σ i0 0) (1 : Int32)).toNatClampNeg) x2) i0 ((f_X9_of (σ i0 0) (2 : Int32)).toNatClampNeg) x3)) (va_cwS 2 hts gX9_adds_X9_of rfl rfl rfl (by decide +kernel) ⟨Nat.le_of_ble_eq_true rfl, Nat.le_of_ble_eq_true rfl⟩) rfl hl.1 rfl (Nat.le_of_ble_eq_true rfl) ⟨Nat.zero_le _, Nat.zero_le _⟩ dX9_adds_36 (fun H locs hP hS => ?_)
  refine lv_iload hx hb dX9_adds_39 (lv_at hl 5 rfl) ?_
  obtain ⟨b4, hF⟩ := ite_some hF
  refine va_iast hx hb hK.1 hP (Dw.D hG) hS i0 0 (at_6 hk0.1 hk0.2) rfl (inb_in b4) dX9_adds_41 (fun H locs hP _ hS => ?_)
  have hP : Pw G (up (up (up (up σ i0 ((f_X9_of (σ i0 0) (0 : Int32)).toNatClampNeg) x1) i0 ((f_X9_of (σ i0 0) (1 : Int32)).toNatClampNeg) x2) i0 ((f_X9_of (σ i0 0) (2 : Int32)).toNatClampNeg) x3) i0 ((f_X9_of (σ i0 0) (3 : Int32)).toNatClampNeg) x4) H := Pw.of hP (set_6 hk0.1 hk0.2)
  refine lv_aload_n hx hb dX9_adds_42 rfl (lv_at hl 1 rfl) ?_
  refine lv_iload hx hb dX9_adds_43 (lv_at hl 0 rfl) ?_
  refine lv_iconst (v := 4) hx hb dX9_adds_45 (by decide) ?_
  refine k_Sv (As := [.int (σ i0 0), .int (4 : Int32)]) (rest := [.ref (gA G i0)]) Z hK hP hS (t_X9_of l G hG (σ i0 0) (4 : Int32) (up (up (up (up σ i0 ((f_X9_of (σ i0 0) (0 : Int32)).toNatClampNeg) x1) i0 ((f_X9_of (σ i0 0) (1 : Int32)).toNatClampNeg) x2) i0 ((f_X9_of (σ i0 0) (2 : Int32)).toNatClampNeg) x3) i0 ((f_X9_of (σ i0 0) (3 : Int32)).toNatClampNeg) x4)) (va_cwS 2 hts gX9_adds_X9_of rfl rfl rfl (by decide +kernel) ⟨Nat.le_of_ble_eq_true rfl, Nat.le_of_ble_eq_true rfl⟩) rfl hl.1 rfl (Nat.le_of_ble_eq_true rfl) ⟨Nat.zero_le _, Nat.zero_le _⟩ dX9_adds_46 (fun H locs hP hS => ?_)
  refine lv_iload hx hb dX9_adds_49 (lv_at hl 6 rfl) ?_
  refine lv_iconst (v := 1) hx hb dX9_adds_51 (by decide) ?_
  refine lv_iload hx hb dX9_adds_52 (lv_at hl 5 rfl) ?_
  refine lv_ishl hx hb dX9_adds_54 ?_
  refine lv_iconst (v := -1) hx hb dX9_adds_55 (by decide) ?_
  refine lv_ixor hx hb dX9_adds_56 ?_
  refine lv_iand hx hb dX9_adds_57 ?_
  obtain ⟨b5, hF⟩ := ite_some hF
  refine va_iast hx hb hK.1 hP (Dw.D hG) hS i0 0 (at_6 hk0.1 hk0.2) rfl (inb_in b5) dX9_adds_58 (fun H locs hP _ hS => ?_)
  have hP : Pw G (up (up (up (up (up σ i0 ((f_X9_of (σ i0 0) (0 : Int32)).toNatClampNeg) x1) i0 ((f_X9_of (σ i0 0) (1 : Int32)).toNatClampNeg) x2) i0 ((f_X9_of (σ i0 0) (2 : Int32)).toNatClampNeg) x3) i0 ((f_X9_of (σ i0 0) (3 : Int32)).toNatClampNeg) x4) i0 ((f_X9_of (σ i0 0) (4 : Int32)).toNatClampNeg) (x5 &&& (((1 : Int32) <<< (x4 &&& 31)) ^^^ (-1 : Int32)))) H := Pw.of hP (set_6 hk0.1 hk0.2)
  refine lv_aload_n hx hb dX9_adds_59 rfl (lv_at hl 1 rfl) ?_
  refine lv_iconst (v := 0) hx hb dX9_adds_60 (by decide) ?_
  refine lv_dup2_11 hx hb dX9_adds_61 rfl rfl ?_
  refine va_iald hx hb hK.1 hP i0 0 (at_6 hk0.1 hk0.2) rfl (inb_in (by decide)) dX9_adds_62 ?_
  refine W.eq (g2 := F0 m 63 ls ([.int ((up (up (up (up (up σ i0 ((f_X9_of (σ i0 0) (0 : Int32)).toNatClampNeg) x1) i0 ((f_X9_of (σ i0 0) (1 : Int32)).toNatClampNeg) x2) i0 ((f_X9_of (σ i0 0) (2 : Int32)).toNatClampNeg) x3) i0 ((f_X9_of (σ i0 0) (3 : Int32)).toNatClampNeg) x4) i0 ((f_X9_of (σ i0 0) (4 : Int32)).toNatClampNeg) (x5 &&& (((1 : Int32) <<< (x4 &&& 31)) ^^^ (-1 : Int32)))) i0 0), .int (0 : Int32), .ref (gA G i0)])) rfl ?_
  refine lv_iconst (v := 1) hx hb dX9_adds_63 (by decide) ?_
  refine lv_iadd hx hb dX9_adds_64 ?_
  refine va_iast hx hb hK.1 hP (Dw.D hG) hS i0 0 (at_6 hk0.1 hk0.2) rfl (inb_in (by decide)) dX9_adds_65 (fun H locs hP _ hS => ?_)
  have hP : Pw G (up (up (up (up (up (up σ i0 ((f_X9_of (σ i0 0) (0 : Int32)).toNatClampNeg) x1) i0 ((f_X9_of (σ i0 0) (1 : Int32)).toNatClampNeg) x2) i0 ((f_X9_of (σ i0 0) (2 : Int32)).toNatClampNeg) x3) i0 ((f_X9_of (σ i0 0) (3 : Int32)).toNatClampNeg) x4) i0 ((f_X9_of (σ i0 0) (4 : Int32)).toNatClampNeg) (x5 &&& (((1 : Int32) <<< (x4 &&& 31)) ^^^ (-1 : Int32)))) i0 0 (((up (up (up (up (up σ i0 ((f_X9_of (σ i0 0) (0 : Int32)).toNatClampNeg) x1) i0 ((f_X9_of (σ i0 0) (1 : Int32)).toNatClampNeg) x2) i0 ((f_X9_of (σ i0 0) (2 : Int32)).toNatClampNeg) x3) i0 ((f_X9_of (σ i0 0) (3 : Int32)).toNatClampNeg) x4) i0 ((f_X9_of (σ i0 0) (4 : Int32)).toNatClampNeg) (x5 &&& (((1 : Int32) <<< (x4 &&& 31)) ^^^ (-1 : Int32)))) i0 0) + (1 : Int32))) H := Pw.of hP (set_6 hk0.1 hk0.2)
  exact e_vS hx hb hr hP hS hlocks dX9_adds_66 hF
def f_X9_isDone (x1 : Int32) (σ : St) : Option (Bool × St) := (if x1 = (100 : Int32) then (if (8 : Int32) ≤ (σ 68 0) then (some (false, σ)) else (if (f_X9_isDay (σ 68 2)) = true then (if (f_X9_isPerson (σ 68 3)) = true then (if (31 : Int32) < (σ 68 4) then (some (false, σ)) else (if (f_X9_has (σ 68 4) (σ 68 3)) = true then (some (false, σ)) else (if (σ 62 0) = (10 : Int32) then (some (false, σ)) else (ob (f_X9_adds 62 (σ 68 0) (σ 68 1) (σ 68 2) (σ 68 3) (σ 68 4) σ) (fun q8 => some (true, q8)))))) else (some (false, σ))) else (some (false, σ)))) else if x1 = (116 : Int32) then (if (365 : Int32) < (σ 68 0) then (some (false, up σ 62 1 (σ 68 0))) else (some (true, up σ 62 1 (σ 68 0)))) else (ob (f_X9_isDeed (σ 68 0) σ) (fun q12 => if q12 = true then (if (f_X9_isPerson (σ 68 1)) = true then (if inb (f_X9_of (σ 68 0) (3 : Int32)) 52 then if (σ 62 (f_X9_of (σ 68 0) (3 : Int32)).toNatClampNeg) = (σ 68 1) then (some (false, σ)) else (if inb (f_X9_of (σ 68 0) (4 : Int32)) 52 then if inb (f_X9_of (σ 68 0) (4 : Int32)) 52 then some (true, up σ 62 ((f_X9_of (σ 68 0) (4 : Int32)).toNatClampNeg) ((σ 62 (f_X9_of (σ 68 0) (4 : Int32)).toNatClampNeg) ^^^ ((1 : Int32) <<< ((σ 68 1) &&& 31)))) else none else none) else none) else (some (false, σ))) else (some (false, σ)))))
set_option maxRecDepth 100000 in
set_option maxHeartbeats 4000000 in
theorem t_X9_isDone (l : Launch) (G : GT) (hG : Dw G) (x1 : Int32) (σ : St) (o : Bool × St) (hF : f_X9_isDone x1 σ = some o) : Ct l G yX9_isDone wsX9_isDone 2 47 [.ref (gA G 61), .int x1] σ (some (.int (b2i o.1))) o.2 := by
  refine Met.ofW (cc := cX9_isDone) (maxL := 4) (ret := (some .boolean)) (by decide) rfl ?_
  intro p e s m args below meth c s₁ B hml hv
  obtain ⟨rfl, hP, hK⟩ := hv
  have hx := B.exec
  have hb := B.bytes
  have hr := B.returns
  have hts := atoms_spec (ws := wsX9_isDone) B.pre
  have hown : s.vm.findClass RX9 = some m.cls := findClass_of_methodNamed B.named
  have hlocks := B.notSynchronized
  have Z : CallFix p m c cX9_isDone 4 s _ wsX9_isDone RX9 := ⟨hx, hb, hml, hown, hts⟩
  have hS : va_S (AG G) s.heap s.heap [] := va_S.rf
  have inX9 : ∀ w ∈ u_ws RX9 TX9 21, w ∈ wsX9_isDone := by decide +kernel
  have w1 := hts (.fieldLink RX9 28 "AlmanacOfTheYearGoneModel" "numbers" "[I") (by decide +kernel)
  have w2 := hts (.fieldLink RX9 9 "AlmanacOfTheYearGoneModel" "s" "[I") (by decide +kernel)
  have hl := lv_entry ([.ref (gA G 61), .int x1]) (n := 4) (Nat.le_of_ble_eq_true rfl)
  rw [lg_entry_eq]
  generalize (lg_sl ([.ref (gA G 61), .int x1]) ++ List.replicate (4 - (lg_sl ([.ref (gA G 61), .int x1])).length) Slot.unset).toArray = ls at hl ⊢
  have hl : lv_has ls 4 [(0, .ref (gA G 61)), (1, .int x1)] := hl
  unfold f_X9_isDone at hF
  refine lv_aload_n hx hb dX9_isDone_0 rfl (lv_at hl 0 rfl) ?_
  refine va_get (ci := 5) (C := RX9) (T := TX9) (N := 21) (v := .ref (gA G 68)) hx hb hts inX9 hown hK.1 hP 61 (at_5 rfl) rfl 12 (by decide) w1 (fun _ h9 => h9) rfl dX9_isDone_1 ?_
  refine lv_iconst (v := 0) hx hb dX9_isDone_4 (by decide) ?_
  refine va_iald hx hb hK.1 hP 68 0 (at_6 (rfl : kd 68 = 6) (rfl : ln 68 = 5)) rfl (inb_in (by decide)) dX9_isDone_5 ?_
  refine W.eq (g2 := F0 m 6 ls ([.int (σ 68 0)])) rfl ?_
  refine lv_istore_n (lv' := [(2, .int (σ 68 0)), (0, .ref (gA G 61)), (1, .int x1)]) hx hb dX9_isDone_6 rfl hl (by decide) rfl (fun ls hl => ?_)
  refine lv_aload_n hx hb dX9_isDone_7 rfl (lv_at hl 1 rfl) ?_
  refine va_get (ci := 5) (C := RX9) (T := TX9) (N := 21) (v := .ref (gA G 68)) hx hb hts inX9 hown hK.1 hP 61 (at_5 rfl) rfl 12 (by decide) w1 (fun _ h9 => h9) rfl dX9_isDone_8 ?_
  refine lv_iconst (v := 1) hx hb dX9_isDone_11 (by decide) ?_
  refine va_iald hx hb hK.1 hP 68 0 (at_6 (rfl : kd 68 = 6) (rfl : ln 68 = 5)) rfl (inb_in (by decide)) dX9_isDone_12 ?_
  refine W.eq (g2 := F0 m 13 ls ([.int (σ 68 1)])) rfl ?_
  refine lv_istore_n (lv' := [(3, .int (σ 68 1)), (2, .int (σ 68 0)), (0, .ref (gA G 61)), (1, .int x1)]) hx hb dX9_isDone_13 rfl hl (by decide) rfl (fun ls hl => ?_)
  refine lv_iload_n hx hb dX9_isDone_14 rfl (lv_at hl 3 rfl) ?_
  by_cases c1 : x1 = (100 : Int32)
  · have hF := ite_t c1 hF
    refine lv_lookup (off := 25) (tgt := 40) hx hb dX9_isDone_15 (by decide) (by rw [c1]; rfl) (by decide) ?_
    refine lv_iload_n hx hb dX9_isDone_40 rfl (lv_at hl 1 rfl) ?_
    refine lv_bipush (v := 8) hx hb dX9_isDone_41 (by decide) ?_
    refine lv_icmp_ge (tgt := 110) hx hb dX9_isDone_43 (by decide) (fun c2 => ?_) (fun c2 => ?_)
    · have hF := ite_t c2 hF
      refine lv_iconst (v := 0) hx hb dX9_isDone_110 (by decide) ?_
      exact e_zS (b := false) hx hb hr hP hS hlocks dX9_isDone_111 rfl hF
    · have hF := ite_f c2 hF
      refine lv_aload_n hx hb dX9_isDone_46 rfl (lv_at hl 2 rfl) ?_
      refine va_get (ci := 5) (C := RX9) (T := TX9) (N := 21) (v := .ref (gA G 68)) hx hb hts inX9 hown hK.1 hP 61 (at_5 rfl) rfl 12 (by decide) w1 (fun _ h9 => h9) rfl dX9_isDone_47 ?_
      refine lv_iconst (v := 2) hx hb dX9_isDone_50 (by decide) ?_
      refine va_iald hx hb hK.1 hP 68 0 (at_6 (rfl : kd 68 = 6) (rfl : ln 68 = 5)) rfl (inb_in (by decide)) dX9_isDone_51 ?_
      refine W.eq (g2 := F0 m 52 ls ([.int (σ 68 2)])) rfl ?_
      refine k_Sv (As := [.int (σ 68 2)]) (rest := []) Z hK hP hS (t_X9_isDay l G hG (σ 68 2) σ) (va_cwS 1 hts gX9_isDone_X9_isDay rfl rfl rfl (by decide +kernel) ⟨Nat.le_of_ble_eq_true rfl, Nat.le_of_ble_eq_true rfl⟩) rfl hl.1 rfl (Nat.le_of_ble_eq_true rfl) ⟨Nat.zero_le _, Nat.zero_le _⟩ dX9_isDone_52 (fun H locs hP hS => ?_)
      refine lv_if_eq (tgt := 110) hx hb dX9_isDone_55 (by decide) (fun c3 => ?_) (fun c3 => ?_)
      · have hF := ite_f (b2i_e0 c3) hF
        refine lv_iconst (v := 0) hx hb dX9_isDone_110 (by decide) ?_
        exact e_zS (b := false) hx hb hr hP hS hlocks dX9_isDone_111 rfl hF
      · have hF := ite_t (b2i_n0 c3) hF
        refine lv_aload_n hx hb dX9_isDone_58 rfl (lv_at hl 2 rfl) ?_
        refine va_get (ci := 5) (C := RX9) (T := TX9) (N := 21) (v := .ref (gA G 68)) hx hb hts inX9 hown hK.1 hP 61 (at_5 rfl) rfl 12 (by decide) w1 (fun _ h9 => h9) rfl dX9_isDone_59 ?_
        refine lv_iconst (v := 3) hx hb dX9_isDone_62 (by decide) ?_
        refine va_iald hx hb hK.1 hP 68 0 (at_6 (rfl : kd 68 = 6) (rfl : ln 68 = 5)) rfl (inb_in (by decide)) dX9_isDone_63 ?_
        refine W.eq (g2 := F0 m 64 ls ([.int (σ 68 3)])) rfl ?_
        refine k_Sv (As := [.int (σ 68 3)]) (rest := []) Z hK hP hS (t_X9_isPerson l G hG (σ 68 3) σ) (va_cwS 1 hts gX9_isDone_X9_isPerson rfl rfl rfl (by decide +kernel) ⟨Nat.le_of_ble_eq_true rfl, Nat.le_of_ble_eq_true rfl⟩) rfl hl.1 rfl (Nat.le_of_ble_eq_true rfl) ⟨Nat.zero_le _, Nat.zero_le _⟩ dX9_isDone_64 (fun H locs hP hS => ?_)
        refine lv_if_eq (tgt := 110) hx hb dX9_isDone_67 (by decide) (fun c4 => ?_) (fun c4 => ?_)
        · have hF := ite_f (b2i_e0 c4) hF
          refine lv_iconst (v := 0) hx hb dX9_isDone_110 (by decide) ?_
          exact e_zS (b := false) hx hb hr hP hS hlocks dX9_isDone_111 rfl hF
        · have hF := ite_t (b2i_n0 c4) hF
          refine lv_aload_n hx hb dX9_isDone_70 rfl (lv_at hl 2 rfl) ?_
          refine va_get (ci := 5) (C := RX9) (T := TX9) (N := 21) (v := .ref (gA G 68)) hx hb hts inX9 hown hK.1 hP 61 (at_5 rfl) rfl 12 (by decide) w1 (fun _ h9 => h9) rfl dX9_isDone_71 ?_
          refine lv_iconst (v := 4) hx hb dX9_isDone_74 (by decide) ?_
          refine va_iald hx hb hK.1 hP 68 0 (at_6 (rfl : kd 68 = 6) (rfl : ln 68 = 5)) rfl (inb_in (by decide)) dX9_isDone_75 ?_
          refine W.eq (g2 := F0 m 76 ls ([.int (σ 68 4)])) rfl ?_
          refine lv_bipush (v := 31) hx hb dX9_isDone_76 (by decide) ?_
          refine lv_icmp_gt (tgt := 110) hx hb dX9_isDone_78 (by decide) (fun c5 => ?_) (fun c5 => ?_)
          · have hF := ite_t c5 hF
            refine lv_iconst (v := 0) hx hb dX9_isDone_110 (by decide) ?_
            exact e_zS (b := false) hx hb hr hP hS hlocks dX9_isDone_111 rfl hF
          · have hF := ite_f c5 hF
            refine lv_aload_n hx hb dX9_isDone_81 rfl (lv_at hl 2 rfl) ?_
            refine va_get (ci := 5) (C := RX9) (T := TX9) (N := 21) (v := .ref (gA G 68)) hx hb hts inX9 hown hK.1 hP 61 (at_5 rfl) rfl 12 (by decide) w1 (fun _ h9 => h9) rfl dX9_isDone_82 ?_
            refine lv_iconst (v := 4) hx hb dX9_isDone_85 (by decide) ?_
            refine va_iald hx hb hK.1 hP 68 0 (at_6 (rfl : kd 68 = 6) (rfl : ln 68 = 5)) rfl (inb_in (by decide)) dX9_isDone_86 ?_
            refine W.eq (g2 := F0 m 87 ls ([.int (σ 68 4)])) rfl ?_
            refine lv_aload_n hx hb dX9_isDone_87 rfl (lv_at hl 2 rfl) ?_
            refine va_get (ci := 5) (C := RX9) (T := TX9) (N := 21) (v := .ref (gA G 68)) hx hb hts inX9 hown hK.1 hP 61 (at_5 rfl) rfl 12 (by decide) w1 (fun _ h9 => h9) rfl dX9_isDone_88 ?_
            refine lv_iconst (v := 3) hx hb dX9_isDone_91 (by decide) ?_
            refine va_iald hx hb hK.1 hP 68 0 (at_6 (rfl : kd 68 = 6) (rfl : ln 68 = 5)) rfl (inb_in (by decide)) dX9_isDone_92 ?_
            refine W.eq (g2 := F0 m 93 ls ([.int (σ 68 3), .int (σ 68 4)])) rfl ?_
            refine k_Sv (As := [.int (σ 68 4), .int (σ 68 3)]) (rest := []) Z hK hP hS (t_X9_has l G hG (σ 68 4) (σ 68 3) σ) (va_cwS 2 hts gX9_isDone_X9_has rfl rfl rfl (by decide +kernel) ⟨Nat.le_of_ble_eq_true rfl, Nat.le_of_ble_eq_true rfl⟩) rfl hl.1 rfl (Nat.le_of_ble_eq_true rfl) ⟨Nat.zero_le _, Nat.zero_le _⟩ dX9_isDone_93 (fun H locs hP hS => ?_)
            refine lv_if_ne (tgt := 110) hx hb dX9_isDone_96 (by decide) (fun c6 => ?_) (fun c6 => ?_)
            · have hF := ite_t (b2i_n0 c6) hF
              refine lv_iconst (v := 0) hx hb dX9_isDone_110 (by decide) ?_
              exact e_zS (b := false) hx hb hr hP hS hlocks dX9_isDone_111 rfl hF
            · have hF := ite_f (b2i_e0 c6) hF
              refine lv_aload_n hx hb dX9_isDone_99 rfl (lv_at hl 2 rfl) ?_
              refine va_get (ci := 5) (C := RX9) (T := TX9) (N := 21) (v := .ref (gA G 62)) hx hb hts inX9 hown hK.1 hP 61 (at_5 rfl) rfl 0 (by decide) w2 (fun _ h9 => h9) rfl dX9_isDone_100 ?_
              refine lv_iconst (v := 0) hx hb dX9_isDone_103 (by decide) ?_
              refine va_iald hx hb hK.1 hP 62 0 (at_6 (rfl : kd 62 = 6) (rfl : ln 62 = 52)) rfl (inb_in (by decide)) dX9_isDone_104 ?_
              refine W.eq (g2 := F0 m 105 ls ([.int (σ 62 0)])) rfl ?_
              refine lv_bipush (v := 10) hx hb dX9_isDone_105 (by decide) ?_
              refine lv_icmp_ne (tgt := 112) hx hb dX9_isDone_107 (by decide) (fun c7 => ?_) (fun c7 => ?_)
              · have hF := ite_f c7 hF
                refine lv_aload_n hx hb dX9_isDone_112 rfl (lv_at hl 2 rfl) ?_
                refine va_get (ci := 5) (C := RX9) (T := TX9) (N := 21) (v := .ref (gA G 62)) hx hb hts inX9 hown hK.1 hP 61 (at_5 rfl) rfl 0 (by decide) w2 (fun _ h9 => h9) rfl dX9_isDone_113 ?_
                refine lv_iload_n hx hb dX9_isDone_116 rfl (lv_at hl 1 rfl) ?_
                refine lv_iload_n hx hb dX9_isDone_117 rfl (lv_at hl 0 rfl) ?_
                refine lv_aload_n hx hb dX9_isDone_118 rfl (lv_at hl 2 rfl) ?_
                refine va_get (ci := 5) (C := RX9) (T := TX9) (N := 21) (v := .ref (gA G 68)) hx hb hts inX9 hown hK.1 hP 61 (at_5 rfl) rfl 12 (by decide) w1 (fun _ h9 => h9) rfl dX9_isDone_119 ?_
                refine lv_iconst (v := 2) hx hb dX9_isDone_122 (by decide) ?_
                refine va_iald hx hb hK.1 hP 68 0 (at_6 (rfl : kd 68 = 6) (rfl : ln 68 = 5)) rfl (inb_in (by decide)) dX9_isDone_123 ?_
                refine W.eq (g2 := F0 m 124 ls ([.int (σ 68 2), .int (σ 68 1), .int (σ 68 0), .ref (gA G 62)])) rfl ?_
                refine lv_aload_n hx hb dX9_isDone_124 rfl (lv_at hl 2 rfl) ?_
                refine va_get (ci := 5) (C := RX9) (T := TX9) (N := 21) (v := .ref (gA G 68)) hx hb hts inX9 hown hK.1 hP 61 (at_5 rfl) rfl 12 (by decide) w1 (fun _ h9 => h9) rfl dX9_isDone_125 ?_
                refine lv_iconst (v := 3) hx hb dX9_isDone_128 (by decide) ?_
                refine va_iald hx hb hK.1 hP 68 0 (at_6 (rfl : kd 68 = 6) (rfl : ln 68 = 5)) rfl (inb_in (by decide)) dX9_isDone_129 ?_
                refine W.eq (g2 := F0 m 130 ls ([.int (σ 68 3), .int (σ 68 2), .int (σ 68 1), .int (σ 68 0), .ref (gA G 62)])) rfl ?_
                refine lv_aload_n hx hb dX9_isDone_130 rfl (lv_at hl 2 rfl) ?_
                refine va_get (ci := 5) (C := RX9) (T := TX9) (N := 21) (v := .ref (gA G 68)) hx hb hts inX9 hown hK.1 hP 61 (at_5 rfl) rfl 12 (by decide) w1 (fun _ h9 => h9) rfl dX9_isDone_131 ?_
                refine lv_iconst (v := 4) hx hb dX9_isDone_134 (by decide) ?_
                refine va_iald hx hb hK.1 hP 68 0 (at_6 (rfl : kd 68 = 6) (rfl : ln 68 = 5)) rfl (inb_in (by decide)) dX9_isDone_135 ?_
                refine W.eq (g2 := F0 m 136 ls ([.int (σ 68 4), .int (σ 68 3), .int (σ 68 2), .int (σ 68 1), .int (σ 68 0), .ref (gA G 62)])) rfl ?_
                obtain ⟨q8, h9, hF⟩ := ob_some hF
                refine k_S0 (As := [.ref (gA G 62), .int (σ 68 0), .int (σ 68 1), .int (σ 68 2), .int (σ 68 3), .int (σ 68 4)]) (rest := []) Z hK hP hS (t_X9_adds l G hG 62 (σ 68 0) (σ 68 1) (σ 68 2) (σ 68 3) (σ 68 4) ⟨(rfl : kd 62 = 6), (rfl : ln 62 = 52)⟩ σ _ h9) (va_cwS 6 hts gX9_isDone_X9_adds rfl rfl rfl (by decide +kernel) ⟨Nat.le_of_ble_eq_true rfl, Nat.le_of_ble_eq_true rfl⟩) rfl hl.1 rfl (Nat.le_of_ble_eq_true rfl) ⟨Nat.zero_le _, Nat.zero_le _⟩ dX9_isDone_136 (fun H locs hP hS => ?_)
                refine lv_iconst (v := 1) hx hb dX9_isDone_139 (by decide) ?_
                exact e_zS (b := true) hx hb hr hP hS hlocks dX9_isDone_140 rfl hF
              · have hF := ite_t c7 hF
                refine lv_iconst (v := 0) hx hb dX9_isDone_110 (by decide) ?_
                exact e_zS (b := false) hx hb hr hP hS hlocks dX9_isDone_111 rfl hF
  · have hF := ite_f c1 hF
    by_cases c10 : x1 = (116 : Int32)
    · have hF := ite_t c10 hF
      refine lv_lookup (off := 126) (tgt := 141) hx hb dX9_isDone_15 (by decide) (by rw [c10]; rfl) (by decide) ?_
      refine lv_aload_n hx hb dX9_isDone_141 rfl (lv_at hl 2 rfl) ?_
      refine va_get (ci := 5) (C := RX9) (T := TX9) (N := 21) (v := .ref (gA G 62)) hx hb hts inX9 hown hK.1 hP 61 (at_5 rfl) rfl 0 (by decide) w2 (fun _ h9 => h9) rfl dX9_isDone_142 ?_
      refine lv_iconst (v := 1) hx hb dX9_isDone_145 (by decide) ?_
      refine lv_iload_n hx hb dX9_isDone_146 rfl (lv_at hl 1 rfl) ?_
      refine va_iast hx hb hK.1 hP (Dw.D hG) hS 62 0 (at_6 (rfl : kd 62 = 6) (rfl : ln 62 = 52)) rfl (inb_in (by decide)) dX9_isDone_147 (fun H locs hP _ hS => ?_)
      have hP : Pw G (up σ 62 1 (σ 68 0)) H := Pw.of hP (set_6 (rfl : kd 62 = 6) (rfl : ln 62 = 52))
      refine lv_iload_n hx hb dX9_isDone_148 rfl (lv_at hl 1 rfl) ?_
      refine lv_sipush (v := 365) hx hb dX9_isDone_149 (by decide) ?_
      refine lv_icmp_gt (tgt := 159) hx hb dX9_isDone_152 (by decide) (fun c11 => ?_) (fun c11 => ?_)
      · have hF := ite_t c11 hF
        refine lv_iconst (v := 0) hx hb dX9_isDone_159 (by decide) ?_
        exact e_zS (b := false) hx hb hr hP hS hlocks dX9_isDone_160 rfl hF
      · have hF := ite_f c11 hF
        refine lv_iconst (v := 1) hx hb dX9_isDone_155 (by decide) ?_
        refine lv_goto (tgt := 160) hx hb dX9_isDone_156 (by decide) ?_
        exact e_zS (b := true) hx hb hr hP hS hlocks dX9_isDone_160 rfl hF
    · have hF := ite_f c10 hF
      refine lv_lookup (off := 146) (tgt := 161) hx hb dX9_isDone_15 (by decide) (by show Op.lookupswitch.offset [(100, 25), (116, 126)] _ _ = _; rw [lv_osw c1 (by decide : ((100 : Int32)).toInt = 100), lv_osw c10 (by decide : ((116 : Int32)).toInt = 116)]; rfl) (by decide) ?_
      refine lv_aload_n hx hb dX9_isDone_161 rfl (lv_at hl 2 rfl) ?_
      refine lv_iload_n hx hb dX9_isDone_162 rfl (lv_at hl 1 rfl) ?_
      obtain ⟨q12, h13, hF⟩ := ob_some hF
      refine k_Vv (As := [.int (σ 68 0)]) (rest := []) Z hK hP hS (t_X9_isDeed l G hG (σ 68 0) σ _ h13) (cwV 1 hts gX9_isDone_X9_isDeed rfl rfl rfl (by decide +kernel) ⟨Nat.le_of_ble_eq_true rfl, Nat.le_of_ble_eq_true rfl⟩) (at_5 rfl) rfl rfl hl.1 rfl (Nat.le_of_ble_eq_true rfl) ⟨Nat.zero_le _, Nat.zero_le _⟩ dX9_isDone_163 (fun H locs hP hS => ?_)
      refine lv_if_eq (tgt := 190) hx hb dX9_isDone_166 (by decide) (fun c14 => ?_) (fun c14 => ?_)
      · have hF := ite_f (b2i_e0 c14) hF
        refine lv_iconst (v := 0) hx hb dX9_isDone_190 (by decide) ?_
        exact e_zS (b := false) hx hb hr hP hS hlocks dX9_isDone_191 rfl hF
      · have hF := ite_t (b2i_n0 c14) hF
        refine lv_iload_n hx hb dX9_isDone_169 rfl (lv_at hl 0 rfl) ?_
        refine k_Sv (As := [.int (σ 68 1)]) (rest := []) Z hK hP hS (t_X9_isPerson l G hG (σ 68 1) σ) (va_cwS 1 hts gX9_isDone_X9_isPerson rfl rfl rfl (by decide +kernel) ⟨Nat.le_of_ble_eq_true rfl, Nat.le_of_ble_eq_true rfl⟩) rfl hl.1 rfl (Nat.le_of_ble_eq_true rfl) ⟨Nat.zero_le _, Nat.zero_le _⟩ dX9_isDone_170 (fun H locs hP hS => ?_)
        refine lv_if_eq (tgt := 190) hx hb dX9_isDone_173 (by decide) (fun c15 => ?_) (fun c15 => ?_)
        · have hF := ite_f (b2i_e0 c15) hF
          refine lv_iconst (v := 0) hx hb dX9_isDone_190 (by decide) ?_
          exact e_zS (b := false) hx hb hr hP hS hlocks dX9_isDone_191 rfl hF
        · have hF := ite_t (b2i_n0 c15) hF
          refine lv_aload_n hx hb dX9_isDone_176 rfl (lv_at hl 2 rfl) ?_
          refine va_get (ci := 5) (C := RX9) (T := TX9) (N := 21) (v := .ref (gA G 62)) hx hb hts inX9 hown hK.1 hP 61 (at_5 rfl) rfl 0 (by decide) w2 (fun _ h9 => h9) rfl dX9_isDone_177 ?_
          refine lv_iload_n hx hb dX9_isDone_180 rfl (lv_at hl 1 rfl) ?_
          refine lv_iconst (v := 3) hx hb dX9_isDone_181 (by decide) ?_
          refine k_Sv (As := [.int (σ 68 0), .int (3 : Int32)]) (rest := [.ref (gA G 62)]) Z hK hP hS (t_X9_of l G hG (σ 68 0) (3 : Int32) σ) (va_cwS 2 hts gX9_isDone_X9_of rfl rfl rfl (by decide +kernel) ⟨Nat.le_of_ble_eq_true rfl, Nat.le_of_ble_eq_true rfl⟩) rfl hl.1 rfl (Nat.le_of_ble_eq_true rfl) ⟨Nat.zero_le _, Nat.zero_le _⟩ dX9_isDone_182 (fun H locs hP hS => ?_)
          obtain ⟨b16, hF⟩ := ite_some hF
          refine va_iald hx hb hK.1 hP 62 0 (at_6 (rfl : kd 62 = 6) (rfl : ln 62 = 52)) rfl (inb_in b16) dX9_isDone_185 ?_
          refine lv_iload_n hx hb dX9_isDone_186 rfl (lv_at hl 0 rfl) ?_
          refine lv_icmp_ne (tgt := 192) hx hb dX9_isDone_187 (by decide) (fun c17 => ?_) (fun c17 => ?_)
          · have hF := ite_f c17 hF
            refine lv_aload_n hx hb dX9_isDone_192 rfl (lv_at hl 2 rfl) ?_
            refine va_get (ci := 5) (C := RX9) (T := TX9) (N := 21) (v := .ref (gA G 62)) hx hb hts inX9 hown hK.1 hP 61 (at_5 rfl) rfl 0 (by decide) w2 (fun _ h9 => h9) rfl dX9_isDone_193 ?_
            refine lv_iload_n hx hb dX9_isDone_196 rfl (lv_at hl 1 rfl) ?_
            refine lv_iconst (v := 4) hx hb dX9_isDone_197 (by decide) ?_
            refine k_Sv (As := [.int (σ 68 0), .int (4 : Int32)]) (rest := [.ref (gA G 62)]) Z hK hP hS (t_X9_of l G hG (σ 68 0) (4 : Int32) σ) (va_cwS 2 hts gX9_isDone_X9_of rfl rfl rfl (by decide +kernel) ⟨Nat.le_of_ble_eq_true rfl, Nat.le_of_ble_eq_true rfl⟩) rfl hl.1 rfl (Nat.le_of_ble_eq_true rfl) ⟨Nat.zero_le _, Nat.zero_le _⟩ dX9_isDone_198 (fun H locs hP hS => ?_)
            refine lv_dup2_11 hx hb dX9_isDone_201 rfl rfl ?_
            obtain ⟨b18, hF⟩ := ite_some hF
            refine va_iald hx hb hK.1 hP 62 0 (at_6 (rfl : kd 62 = 6) (rfl : ln 62 = 52)) rfl (inb_in b18) dX9_isDone_202 ?_
            refine lv_iconst (v := 1) hx hb dX9_isDone_203 (by decide) ?_
            refine lv_iload_n hx hb dX9_isDone_204 rfl (lv_at hl 0 rfl) ?_
            refine lv_ishl hx hb dX9_isDone_205 ?_
            refine lv_ixor hx hb dX9_isDone_206 ?_
            obtain ⟨b19, hF⟩ := ite_some hF
            refine va_iast hx hb hK.1 hP (Dw.D hG) hS 62 0 (at_6 (rfl : kd 62 = 6) (rfl : ln 62 = 52)) rfl (inb_in b19) dX9_isDone_207 (fun H locs hP _ hS => ?_)
            have hP : Pw G (up σ 62 ((f_X9_of (σ 68 0) (4 : Int32)).toNatClampNeg) ((σ 62 (f_X9_of (σ 68 0) (4 : Int32)).toNatClampNeg) ^^^ ((1 : Int32) <<< ((σ 68 1) &&& 31)))) H := Pw.of hP (set_6 (rfl : kd 62 = 6) (rfl : ln 62 = 52))
            refine lv_iconst (v := 1) hx hb dX9_isDone_208 (by decide) ?_
            exact e_zS (b := true) hx hb hr hP hS hlocks dX9_isDone_209 rfl hF
          · have hF := ite_t c17 hF
            refine lv_iconst (v := 0) hx hb dX9_isDone_190 (by decide) ?_
            exact e_zS (b := false) hx hb hr hP hS hlocks dX9_isDone_191 rfl hF
def f_X9_isShelf (x0 : Int32) : Bool := ((f_X9_isIn x0 (0 : Int32) (7 : Int32)))
set_option maxRecDepth 100000 in
set_option maxHeartbeats 4000000 in
theorem t_X9_isShelf (l : Launch) (G : GT) (hG : Dw G) (x0 : Int32) (σ : St) : Ct l G yX9_isShelf wsX9_isShelf 1 22 [.int x0] σ (some (.int (b2i (f_X9_isShelf x0)))) σ := by
  obtain ⟨o, hF⟩ : ∃ o, f_X9_isShelf x0 = o := ⟨_, rfl⟩
  rw [hF]
  refine Met.ofW (cc := cX9_isShelf) (maxL := 1) (ret := (some .boolean)) (by decide) rfl ?_
  intro p e s m args below meth c s₁ B hml hv
  obtain ⟨rfl, hP, hK⟩ := hv
  have hx := B.exec
  have hb := B.bytes
  have hr := B.returns
  have hts := atoms_spec (ws := wsX9_isShelf) B.pre
  have hown : s.vm.findClass RX9 = some m.cls := findClass_of_methodNamed B.named
  have hlocks := B.notSynchronized
  have Z : CallFix p m c cX9_isShelf 1 s _ wsX9_isShelf RX9 := ⟨hx, hb, hml, hown, hts⟩
  have hS : va_S (AG G) s.heap s.heap [] := va_S.rf
  have hl := lv_entry ([.int x0]) (n := 1) (Nat.le_of_ble_eq_true rfl)
  rw [lg_entry_eq]
  generalize (lg_sl ([.int x0]) ++ List.replicate (1 - (lg_sl ([.int x0])).length) Slot.unset).toArray = ls at hl ⊢
  have hl : lv_has ls 1 [(0, .int x0)] := hl
  unfold f_X9_isShelf at hF
  refine lv_iload_n hx hb dX9_isShelf_0 rfl (lv_at hl 0 rfl) ?_
  refine lv_iconst (v := 0) hx hb dX9_isShelf_1 (by decide) ?_
  refine lv_bipush (v := 7) hx hb dX9_isShelf_2 (by decide) ?_
  refine k_Sv (As := [.int x0, .int (0 : Int32), .int (7 : Int32)]) (rest := []) Z hK hP hS (t_X9_isIn l G hG x0 (0 : Int32) (7 : Int32) σ) (va_cwS 3 hts gX9_isShelf_X9_isIn rfl rfl rfl (by decide +kernel) ⟨Nat.le_of_ble_eq_true rfl, Nat.le_of_ble_eq_true rfl⟩) rfl hl.1 rfl (Nat.le_of_ble_eq_true rfl) ⟨Nat.zero_le _, Nat.zero_le _⟩ dX9_isShelf_4 (fun H locs hP hS => ?_)
  exact e_zT (b := (f_X9_isIn x0 (0 : Int32) (7 : Int32))) hx hb hr hP hS hlocks dX9_isShelf_7 rfl hF
def f_X9_wrongRow_49 (x1 : Int32) (x2 : Int32) (σ : St) : Option Int32 := (some (-12 : Int32))
theorem f_X9_wrongRow_49_e {x1 : Int32} {x2 : Int32} {σ : St} : f_X9_wrongRow_49 x1 x2 σ  = (some (-12 : Int32)) := rfl
def f_X9_wrongRow (x1 : Int32) (x2 : Int32) (σ : St) : Option Int32 := (if (f_X9_isShelf x1) = true then (if inb x1 8 then if (σ 69 x1.toNatClampNeg) = 0 then (some (-11 : Int32)) else (if inb x1 8 then if (σ 69 x1.toNatClampNeg) = (2 : Int32) then (if x2 < 0 then (some (0 : Int32)) else (if inb x1 8 then if (σ 72 x1.toNatClampNeg) = x2 then (some (0 : Int32)) else f_X9_wrongRow_49 x1 x2 σ else none)) else f_X9_wrongRow_49 x1 x2 σ else none) else none) else (some (-1 : Int32)))
set_option maxRecDepth 100000 in
set_option maxHeartbeats 4000000 in
theorem t_X9_wrongRow (l : Launch) (G : GT) (hG : Dw G) (x1 : Int32) (x2 : Int32) (σ : St) (o : Int32) (hF : f_X9_wrongRow x1 x2 σ = some o) : Ct l G yX9_wrongRow wsX9_wrongRow 2 42 [.ref (gA G 61), .int x1, .int x2] σ (some (.int o)) σ := by
  refine Met.ofW (cc := cX9_wrongRow) (maxL := 3) (ret := (some .int)) (by decide) rfl ?_
  intro p e s m args below meth c s₁ B hml hv
  obtain ⟨rfl, hP, hK⟩ := hv
  have hx := B.exec
  have hb := B.bytes
  have hr := B.returns
  have hts := atoms_spec (ws := wsX9_wrongRow) B.pre
  have hown : s.vm.findClass RX9 = some m.cls := findClass_of_methodNamed B.named
  have hlocks := B.notSynchronized
  have Z : CallFix p m c cX9_wrongRow 3 s _ wsX9_wrongRow RX9 := ⟨hx, hb, hml, hown, hts⟩
  have hS : va_S (AG G) s.heap s.heap [] := va_S.rf
  have inX9 : ∀ w ∈ u_ws RX9 TX9 21, w ∈ wsX9_wrongRow := by decide +kernel
  have w1 := hts (.fieldLink RX9 31 "AlmanacOfTheYearGoneModel" "kept" "[I") (by decide +kernel)
  have w2 := hts (.fieldLink RX9 40 "AlmanacOfTheYearGoneModel" "sort" "[I") (by decide +kernel)
  have hl := lv_entry ([.ref (gA G 61), .int x1, .int x2]) (n := 3) (Nat.le_of_ble_eq_true rfl)
  rw [lg_entry_eq]
  generalize (lg_sl ([.ref (gA G 61), .int x1, .int x2]) ++ List.replicate (3 - (lg_sl ([.ref (gA G 61), .int x1, .int x2])).length) Slot.unset).toArray = ls at hl ⊢
  have hl : lv_has ls 3 [(0, .ref (gA G 61)), (1, .int x1), (2, .int x2)] := hl
  unfold f_X9_wrongRow at hF
  refine lv_iload_n hx hb dX9_wrongRow_0 rfl (lv_at hl 1 rfl) ?_
  refine k_Sv (As := [.int x1]) (rest := []) Z hK hP hS (t_X9_isShelf l G hG x1 σ) (va_cwS 1 hts gX9_wrongRow_X9_isShelf rfl rfl rfl (by decide +kernel) ⟨Nat.le_of_ble_eq_true rfl, Nat.le_of_ble_eq_true rfl⟩) rfl hl.1 rfl (Nat.le_of_ble_eq_true rfl) ⟨Nat.zero_le _, Nat.zero_le _⟩ dX9_wrongRow_1 (fun H locs hP hS => ?_)
  refine lv_if_ne (tgt := 11) hx hb dX9_wrongRow_4 (by decide) (fun c1 => ?_) (fun c1 => ?_)
  · have hF := ite_t (b2i_n0 c1) hF
    refine lv_aload_n hx hb dX9_wrongRow_11 rfl (lv_at hl 0 rfl) ?_
    refine va_get (ci := 5) (C := RX9) (T := TX9) (N := 21) (v := .ref (gA G 69)) hx hb hts inX9 hown hK.1 hP 61 (at_5 rfl) rfl 14 (by decide) w1 (fun _ h9 => h9) rfl dX9_wrongRow_12 ?_
    refine lv_iload_n hx hb dX9_wrongRow_15 rfl (lv_at hl 1 rfl) ?_
    obtain ⟨b2, hF⟩ := ite_some hF
    refine va_iald hx hb hK.1 hP 69 0 (at_6 (rfl : kd 69 = 6) (rfl : ln 69 = 8)) rfl (inb_in b2) dX9_wrongRow_16 ?_
    refine lv_if_ne (tgt := 25) hx hb dX9_wrongRow_17 (by decide) (fun c3 => ?_) (fun c3 => ?_)
    · have hF := ite_f c3 hF
      refine lv_aload_n hx hb dX9_wrongRow_25 rfl (lv_at hl 0 rfl) ?_
      refine va_get (ci := 5) (C := RX9) (T := TX9) (N := 21) (v := .ref (gA G 69)) hx hb hts inX9 hown hK.1 hP 61 (at_5 rfl) rfl 14 (by decide) w1 (fun _ h9 => h9) rfl dX9_wrongRow_26 ?_
      refine lv_iload_n hx hb dX9_wrongRow_29 rfl (lv_at hl 1 rfl) ?_
      obtain ⟨b4, hF⟩ := ite_some hF
      refine va_iald hx hb hK.1 hP 69 0 (at_6 (rfl : kd 69 = 6) (rfl : ln 69 = 8)) rfl (inb_in b4) dX9_wrongRow_30 ?_
      refine lv_iconst (v := 2) hx hb dX9_wrongRow_31 (by decide) ?_
      have J49 : ∀ (H : Heap) (locs : List Loc) (hP : Pw G σ H) (hS : va_S (AG G) s.heap H locs) (ls : Array Slot) (hl : lv_has ls 3 [(0, .ref (gA G 61)), (1, .int x1), (2, .int x2)]) (hF : f_X9_wrongRow_49 x1 x2 σ  = some o), W p l e (headSpec wsX9_wrongRow ({ frames := 2, cells := 0, slots := 0, locals := 42 })).room s m ([.ref (gA G 61), .int x1, .int x2] : List Value).toArray below meth c H locs 0 0 (MQ below (qR G (some (.int o)) σ) ([.ref (gA G 61), .int x1, .int x2] : List Value).toArray s 0 0 (AG G)) (F0 m 49 ls []) := by
        intro  H locs hP hS ls hl hF
        rw [f_X9_wrongRow_49_e] at hF
        refine lv_bipush (v := -12) hx hb dX9_wrongRow_49 (by decide) ?_
        refine lv_goto (tgt := 55) hx hb dX9_wrongRow_51 (by decide) ?_
        exact e_iP hx hb hr hP hS hlocks dX9_wrongRow_55 hF
      refine lv_icmp_ne (tgt := 49) hx hb dX9_wrongRow_32 (by decide) (fun c5 => ?_) (fun c5 => ?_)
      · have hF := ite_f c5 hF
        exact J49  _ _ hP hS ls (lv_sub hl [0, 1, 2] rfl) hF
      · have hF := ite_t c5 hF
        refine lv_iload_n hx hb dX9_wrongRow_35 rfl (lv_at hl 2 rfl) ?_
        refine lv_if_lt (tgt := 54) hx hb dX9_wrongRow_36 (by decide) (fun c6 => ?_) (fun c6 => ?_)
        · have hF := ite_t c6 hF
          refine lv_iconst (v := 0) hx hb dX9_wrongRow_54 (by decide) ?_
          exact e_iP hx hb hr hP hS hlocks dX9_wrongRow_55 hF
        · have hF := ite_f c6 hF
          refine lv_aload_n hx hb dX9_wrongRow_39 rfl (lv_at hl 0 rfl) ?_
          refine va_get (ci := 5) (C := RX9) (T := TX9) (N := 21) (v := .ref (gA G 72)) hx hb hts inX9 hown hK.1 hP 61 (at_5 rfl) rfl 17 (by decide) w2 (fun _ h9 => h9) rfl dX9_wrongRow_40 ?_
          refine lv_iload_n hx hb dX9_wrongRow_43 rfl (lv_at hl 1 rfl) ?_
          obtain ⟨b7, hF⟩ := ite_some hF
          refine va_iald hx hb hK.1 hP 72 0 (at_6 (rfl : kd 72 = 6) (rfl : ln 72 = 8)) rfl (inb_in b7) dX9_wrongRow_44 ?_
          refine lv_iload_n hx hb dX9_wrongRow_45 rfl (lv_at hl 2 rfl) ?_
          refine lv_icmp_eq (tgt := 54) hx hb dX9_wrongRow_46 (by decide) (fun c8 => ?_) (fun c8 => ?_)
          · have hF := ite_t c8 hF
            refine lv_iconst (v := 0) hx hb dX9_wrongRow_54 (by decide) ?_
            exact e_iP hx hb hr hP hS hlocks dX9_wrongRow_55 hF
          · have hF := ite_f c8 hF
            exact J49  _ _ hP hS ls (lv_sub hl [0, 1, 2] rfl) hF
    · have hF := ite_t c3 hF
      refine lv_bipush (v := -11) hx hb dX9_wrongRow_20 (by decide) ?_
      refine lv_goto (tgt := 55) hx hb dX9_wrongRow_22 (by decide) ?_
      exact e_iP hx hb hr hP hS hlocks dX9_wrongRow_55 hF
  · have hF := ite_f (b2i_e0 c1) hF
    refine lv_iconst (v := -1) hx hb dX9_wrongRow_7 (by decide) ?_
    refine lv_goto (tgt := 55) hx hb dX9_wrongRow_8 (by decide) ?_
    exact e_iP hx hb hr hP hS hlocks dX9_wrongRow_55 hF
def f_X9_year_161 (x1 : Int32) (v3 : Int32) (v4 : Int32) (τ : St) : Option (Int32 × St) := (if v4 = 0 then (some (v3, τ)) else (some (v4, τ)))
theorem f_X9_year_161_e {x1 : Int32} {v3 : Int32} {v4 : Int32} {τ : St} : f_X9_year_161 x1 v3 v4 τ = (if v4 = 0 then (some (v3, τ)) else (some (v4, τ))) := rfl
def f_X9_year_93 (x1 : Int32) : Nat → (Int32 → Int32 → St → Option (Int32 × St))
  | 0 => fun _ _ _ => none
  | fl + 1 => fun v3 v4 τ => (if v4 = 0 then (if (τ 61 11) ≤ (τ 61 9) then f_X9_year_161 x1 v3 v4 τ else (ob (f_X9_here τ) (fun q12 => ob (f_X9_readsStatement τ) (fun q14 => ob (f_X9_isDone q12 q14.2) (fun q16 => if q16.1 = true then ((f_X9_year_93 x1 fl) v3 v4 q16.2) else (ob (f_X9_copies 65 62 q16.2) (fun q19 => (f_X9_year_93 x1 fl) v3 ((-2000 : Int32) - (τ 61 9)) q19))))))) else f_X9_year_161 x1 v3 v4 τ)
theorem f_X9_year_93_s {x1 : Int32} (fl : Nat) {v3 : Int32} {v4 : Int32} {τ : St} : f_X9_year_93 x1 (fl + 1) v3 v4 τ = (if v4 = 0 then (if (τ 61 11) ≤ (τ 61 9) then f_X9_year_161 x1 v3 v4 τ else (ob (f_X9_here τ) (fun q12 => ob (f_X9_readsStatement τ) (fun q14 => ob (f_X9_isDone q12 q14.2) (fun q16 => if q16.1 = true then ((f_X9_year_93 x1 fl) v3 v4 q16.2) else (ob (f_X9_copies 65 62 q16.2) (fun q19 => (f_X9_year_93 x1 fl) v3 ((-2000 : Int32) - (τ 61 9)) q19))))))) else f_X9_year_161 x1 v3 v4 τ) := rfl
def f_X9_year_77 (x1 : Int32) (v3 : Int32) (v4 : Int32) (τ : St) : Option (Int32 × St) := (ob (f_X9_copies 62 65 τ) (fun q7 => f_X9_year_93 x1 fu v3 v4 (up q7 61 9 (0 : Int32))))
theorem f_X9_year_77_e {x1 : Int32} {v3 : Int32} {v4 : Int32} {τ : St} : f_X9_year_77 x1 v3 v4 τ = (ob (f_X9_copies 62 65 τ) (fun q7 => f_X9_year_93 x1 fu v3 v4 (up q7 61 9 (0 : Int32)))) := rfl
def f_X9_year_58 (x1 : Int32) (rec41 : Int32 → Int32 → St → Option (Int32 × St)) (v3 : Int32) (v4 : Int32) (τ : St) : Option (Int32 × St) := (if v4 = 0 then (if (τ 61 9) < (τ 61 11) then rec41 (v3 + (1 : Int32)) v4 τ else f_X9_year_77 x1 (v3 + (1 : Int32)) v4 τ) else f_X9_year_77 x1 (v3 + (1 : Int32)) v4 τ)
theorem f_X9_year_58_e {x1 : Int32} {rec41 : Int32 → Int32 → St → Option (Int32 × St)} {v3 : Int32} {v4 : Int32} {τ : St} : f_X9_year_58 x1 rec41 v3 v4 τ = (if v4 = 0 then (if (τ 61 9) < (τ 61 11) then rec41 (v3 + (1 : Int32)) v4 τ else f_X9_year_77 x1 (v3 + (1 : Int32)) v4 τ) else f_X9_year_77 x1 (v3 + (1 : Int32)) v4 τ) := rfl
def f_X9_year_41 (x1 : Int32) : Nat → (Int32 → Int32 → St → Option (Int32 × St))
  | 0 => fun _ _ _ => none
  | fl + 1 => fun v3 v4 τ => (ob (f_X9_readsStatement τ) (fun q5 => if q5.1 = true then f_X9_year_58 x1 (f_X9_year_41 x1 fl) v3 v4 q5.2 else (f_X9_year_58 x1 (f_X9_year_41 x1 fl) v3 ((-1000 : Int32) - (q5.2 61 9)) q5.2)))
theorem f_X9_year_41_s {x1 : Int32} (fl : Nat) {v3 : Int32} {v4 : Int32} {τ : St} : f_X9_year_41 x1 (fl + 1) v3 v4 τ = (ob (f_X9_readsStatement τ) (fun q5 => if q5.1 = true then f_X9_year_58 x1 (f_X9_year_41 x1 fl) v3 v4 q5.2 else (f_X9_year_58 x1 (f_X9_year_41 x1 fl) v3 ((-1000 : Int32) - (q5.2 61 9)) q5.2))) := rfl
def f_X9_year (x1 : Int32) (σ : St) : Option (Int32 × St) := (ob (f_X9_wrongRow x1 (0 : Int32) σ) (fun q1 => if q1 = 0 then (if inb x1 8 then f_X9_year_41 x1 fu (0 : Int32) (0 : Int32) (up (up (up σ 61 10 ((100 : Int32) * x1)) 61 11 ((up σ 61 10 ((100 : Int32) * x1)) 73 x1.toNatClampNeg)) 61 9 (0 : Int32)) else none) else (some (q1, σ))))
set_option maxRecDepth 100000 in
set_option maxHeartbeats 4000000 in
theorem t_X9_year (l : Launch) (G : GT) (hG : Dw G) (x1 : Int32) (σ : St) (o : Int32 × St) (hF : f_X9_year x1 σ = some o) : Ct l G yX9_year wsX9_year 3 70 [.ref (gA G 61), .int x1] σ (some (.int o.1)) o.2 := by
  refine Met.ofW (cc := cX9_year) (maxL := 8) (ret := (some .int)) (by decide) rfl ?_
  intro p e s m args below meth c s₁ B hml hv
  obtain ⟨rfl, hP, hK⟩ := hv
  have hx := B.exec
  have hb := B.bytes
  have hr := B.returns
  have hts := atoms_spec (ws := wsX9_year) B.pre
  have hown : s.vm.findClass RX9 = some m.cls := findClass_of_methodNamed B.named
  have hlocks := B.notSynchronized
  have Z : CallFix p m c cX9_year 8 s _ wsX9_year RX9 := ⟨hx, hb, hml, hown, hts⟩
  have hS : va_S (AG G) s.heap s.heap [] := va_S.rf
  have inX9 : ∀ w ∈ u_ws RX9 TX9 21, w ∈ wsX9_year := by decide +kernel
  have w1 := hts (.fieldLink RX9 101 "AlmanacOfTheYearGoneModel" "rowAt" "I") (by decide +kernel)
  have w2 := hts (.fieldLink RX9 43 "AlmanacOfTheYearGoneModel" "size" "[I") (by decide +kernel)
  have w3 := hts (.fieldLink RX9 98 "AlmanacOfTheYearGoneModel" "rowEnd" "I") (by decide +kernel)
  have w4 := hts (.fieldLink RX9 95 "AlmanacOfTheYearGoneModel" "place" "I") (by decide +kernel)
  have w5 := hts (.fieldLink RX9 9 "AlmanacOfTheYearGoneModel" "s" "[I") (by decide +kernel)
  have w6 := hts (.fieldLink RX9 19 "AlmanacOfTheYearGoneModel" "was" "[I") (by decide +kernel)
  have hl := lv_entry ([.ref (gA G 61), .int x1]) (n := 8) (Nat.le_of_ble_eq_true rfl)
  rw [lg_entry_eq]
  generalize (lg_sl ([.ref (gA G 61), .int x1]) ++ List.replicate (8 - (lg_sl ([.ref (gA G 61), .int x1])).length) Slot.unset).toArray = ls at hl ⊢
  have hl : lv_has ls 8 [(0, .ref (gA G 61)), (1, .int x1)] := hl
  unfold f_X9_year at hF
  refine lv_aload_n hx hb dX9_year_0 rfl (lv_at hl 0 rfl) ?_
  refine lv_iload_n hx hb dX9_year_1 rfl (lv_at hl 1 rfl) ?_
  refine lv_iconst (v := 0) hx hb dX9_year_2 (by decide) ?_
  obtain ⟨q1, h2, hF⟩ := ob_some hF
  refine k_Vv (As := [.int x1, .int (0 : Int32)]) (rest := []) Z hK hP hS (t_X9_wrongRow l G hG x1 (0 : Int32) σ _ h2) (cwV 2 hts gX9_year_X9_wrongRow rfl rfl rfl (by decide +kernel) ⟨Nat.le_of_ble_eq_true rfl, Nat.le_of_ble_eq_true rfl⟩) (at_5 rfl) rfl rfl hl.1 rfl (Nat.le_of_ble_eq_true rfl) ⟨Nat.zero_le _, Nat.zero_le _⟩ dX9_year_3 (fun H locs hP hS => ?_)
  refine lv_istore_n (lv' := [(2, .int q1), (0, .ref (gA G 61)), (1, .int x1)]) hx hb dX9_year_6 rfl hl (by decide) rfl (fun ls hl => ?_)
  refine lv_iload_n hx hb dX9_year_7 rfl (lv_at hl 0 rfl) ?_
  refine lv_if_eq (tgt := 13) hx hb dX9_year_8 (by decide) (fun c3 => ?_) (fun c3 => ?_)
  · have hF := ite_t c3 hF
    refine lv_aload_n hx hb dX9_year_13 rfl (lv_at hl 1 rfl) ?_
    refine lv_bipush (v := 100) hx hb dX9_year_14 (by decide) ?_
    refine lv_iload_n hx hb dX9_year_16 rfl (lv_at hl 2 rfl) ?_
    refine lv_imul hx hb dX9_year_17 ?_
    refine va_put (ci := 5) (C := RX9) (T := TX9) (N := 21) (v := .int ((100 : Int32) * x1)) (ty := .int) hx hb hts inX9 tyX9 tyX9_ok nmX9 hown hK.1 hP (Dw.D hG) hS 61 (at_5 rfl) rfl 10 (by decide) w1 (fun _ h9 => h9) rfl (by decide +kernel) rfl rfl (Nat.le_of_ble_eq_true rfl) dX9_year_18 (fun H locs hP _ hS => ?_)
    have hP := Pw.of hP (set_5_10 rfl)
    refine lv_aload_n hx hb dX9_year_21 rfl (lv_at hl 1 rfl) ?_
    refine lv_aload_n hx hb dX9_year_22 rfl (lv_at hl 1 rfl) ?_
    refine va_get (ci := 5) (C := RX9) (T := TX9) (N := 21) (v := .ref (gA G 73)) hx hb hts inX9 hown hK.1 hP 61 (at_5 rfl) rfl 18 (by decide) w2 (fun _ h9 => h9) rfl dX9_year_23 ?_
    refine lv_iload_n hx hb dX9_year_26 rfl (lv_at hl 2 rfl) ?_
    obtain ⟨b4, hF⟩ := ite_some hF
    refine va_iald hx hb hK.1 hP 73 0 (at_6 (rfl : kd 73 = 6) (rfl : ln 73 = 8)) rfl (inb_in b4) dX9_year_27 ?_
    refine va_put (ci := 5) (C := RX9) (T := TX9) (N := 21) (v := .int ((up σ 61 10 ((100 : Int32) * x1)) 73 x1.toNatClampNeg)) (ty := .int) hx hb hts inX9 tyX9 tyX9_ok nmX9 hown hK.1 hP (Dw.D hG) hS 61 (at_5 rfl) rfl 11 (by decide) w3 (fun _ h9 => h9) rfl (by decide +kernel) rfl rfl (Nat.le_of_ble_eq_true rfl) dX9_year_28 (fun H locs hP _ hS => ?_)
    have hP := Pw.of hP (set_5_11 rfl)
    refine lv_aload_n hx hb dX9_year_31 rfl (lv_at hl 1 rfl) ?_
    refine lv_iconst (v := 0) hx hb dX9_year_32 (by decide) ?_
    refine va_put (ci := 5) (C := RX9) (T := TX9) (N := 21) (v := .int (0 : Int32)) (ty := .int) hx hb hts inX9 tyX9 tyX9_ok nmX9 hown hK.1 hP (Dw.D hG) hS 61 (at_5 rfl) rfl 9 (by decide) w4 (fun _ h9 => h9) rfl (by decide +kernel) rfl rfl (Nat.le_of_ble_eq_true rfl) dX9_year_33 (fun H locs hP _ hS => ?_)
    have hP := Pw.of hP (set_5_9 rfl)
    refine lv_iconst (v := 0) hx hb dX9_year_36 (by decide) ?_
    refine lv_istore_n (lv' := [(3, .int (0 : Int32)), (2, .int q1), (0, .ref (gA G 61)), (1, .int x1)]) hx hb dX9_year_37 rfl hl (by decide) rfl (fun ls hl => ?_)
    refine lv_iconst (v := 0) hx hb dX9_year_38 (by decide) ?_
    have J41 : ∀ (fl : Nat) (v3 : Int32) (v4 : Int32) (τ : St) (H : Heap) (locs : List Loc) (hP : Pw G τ H) (hS : va_S (AG G) s.heap H locs) (ls : Array Slot) (hl : lv_has ls 8 [(0, .ref (gA G 61)), (1, .int x1), (3, .int v3), (4, .int v4)]) (hF : f_X9_year_41 x1 fl v3 v4 τ = some o), W p l e (headSpec wsX9_year ({ frames := 3, cells := 0, slots := 0, locals := 70 })).room s m ([.ref (gA G 61), .int x1] : List Value).toArray below meth c H locs 0 0 (MQ below (qR G (some (.int o.1)) o.2) ([.ref (gA G 61), .int x1] : List Value).toArray s 0 0 (AG G)) (F0 m 41 ls []) := by
      intro fl41
      induction fl41 with
      | zero => intro v3 v4 τ H locs hP hS ls hl hF; cases hF
      | succ fl41 ih41 =>
        intro v3 v4 τ H locs hP hS ls hl hF
        rw [f_X9_year_41_s] at hF
        refine lv_aload_n hx hb dX9_year_41 rfl (lv_at hl 0 rfl) ?_
        obtain ⟨q5, h6, hF⟩ := ob_some hF
        refine k_Vv (As := []) (rest := []) Z hK hP hS (t_X9_readsStatement l G hG τ _ h6) (cwV 0 hts gX9_year_X9_readsStatement rfl rfl rfl (by decide +kernel) ⟨Nat.le_of_ble_eq_true rfl, Nat.le_of_ble_eq_true rfl⟩) (at_5 rfl) rfl rfl hl.1 rfl (Nat.le_of_ble_eq_true rfl) ⟨Nat.zero_le _, Nat.zero_le _⟩ dX9_year_42 (fun H locs hP hS => ?_)
        have J58 : ∀ (v3 : Int32) (v4 : Int32) (τ : St) (H : Heap) (locs : List Loc) (hP : Pw G τ H) (hS : va_S (AG G) s.heap H locs) (ls : Array Slot) (hl : lv_has ls 8 [(0, .ref (gA G 61)), (1, .int x1), (3, .int v3), (4, .int v4)]) (hF : f_X9_year_58 x1 (f_X9_year_41 x1 fl41) v3 v4 τ = some o), W p l e (headSpec wsX9_year ({ frames := 3, cells := 0, slots := 0, locals := 70 })).room s m ([.ref (gA G 61), .int x1] : List Value).toArray below meth c H locs 0 0 (MQ below (qR G (some (.int o.1)) o.2) ([.ref (gA G 61), .int x1] : List Value).toArray s 0 0 (AG G)) (F0 m 58 ls []) := by
          intro v3 v4 τ H locs hP hS ls hl hF
          rw [f_X9_year_58_e] at hF
          refine lv_iinc (v := (v3 + (1 : Int32))) (lv' := [(3, .int (v3 + (1 : Int32))), (0, .ref (gA G 61)), (1, .int x1), (4, .int v4)]) hx hb dX9_year_58 hl (k := 2) rfl rfl (by decide) rfl (fun ls hl => ?_)
          refine lv_iload hx hb dX9_year_61 (lv_at hl 3 rfl) ?_
          have J77 : ∀ (v3 : Int32) (v4 : Int32) (τ : St) (H : Heap) (locs : List Loc) (hP : Pw G τ H) (hS : va_S (AG G) s.heap H locs) (ls : Array Slot) (hl : lv_has ls 8 [(0, .ref (gA G 61)), (1, .int x1), (3, .int v3), (4, .int v4)]) (hF : f_X9_year_77 x1 v3 v4 τ = some o), W p l e (headSpec wsX9_year ({ frames := 3, cells := 0, slots := 0, locals := 70 })).room s m ([.ref (gA G 61), .int x1] : List Value).toArray below meth c H locs 0 0 (MQ below (qR G (some (.int o.1)) o.2) ([.ref (gA G 61), .int x1] : List Value).toArray s 0 0 (AG G)) (F0 m 77 ls []) := by
            intro v3 v4 τ H locs hP hS ls hl hF
            rw [f_X9_year_77_e] at hF
            refine lv_aload_n hx hb dX9_year_77 rfl (lv_at hl 0 rfl) ?_
            refine va_get (ci := 5) (C := RX9) (T := TX9) (N := 21) (v := .ref (gA G 62)) hx hb hts inX9 hown hK.1 hP 61 (at_5 rfl) rfl 0 (by decide) w5 (fun _ h9 => h9) rfl dX9_year_78 ?_
            refine lv_aload_n hx hb dX9_year_81 rfl (lv_at hl 0 rfl) ?_
            refine va_get (ci := 5) (C := RX9) (T := TX9) (N := 21) (v := .ref (gA G 65)) hx hb hts inX9 hown hK.1 hP 61 (at_5 rfl) rfl 3 (by decide) w6 (fun _ h9 => h9) rfl dX9_year_82 ?_
            obtain ⟨q7, h8, hF⟩ := ob_some hF
            refine k_S0 (As := [.ref (gA G 62), .ref (gA G 65)]) (rest := []) Z hK hP hS (t_X9_copies l G hG 62 65 ⟨(rfl : kd 62 = 6), (rfl : ln 62 = 52)⟩ ⟨(rfl : kd 65 = 6), (rfl : ln 65 = 52)⟩ τ _ h8) (va_cwS 2 hts gX9_year_X9_copies rfl rfl rfl (by decide +kernel) ⟨Nat.le_of_ble_eq_true rfl, Nat.le_of_ble_eq_true rfl⟩) rfl hl.1 rfl (Nat.le_of_ble_eq_true rfl) ⟨Nat.zero_le _, Nat.zero_le _⟩ dX9_year_85 (fun H locs hP hS => ?_)
            refine lv_aload_n hx hb dX9_year_88 rfl (lv_at hl 0 rfl) ?_
            refine lv_iconst (v := 0) hx hb dX9_year_89 (by decide) ?_
            have J93 : ∀ (fl : Nat) (v3 : Int32) (v4 : Int32) (τ : St) (H : Heap) (locs : List Loc) (hP : Pw G τ H) (hS : va_S (AG G) s.heap H locs) (ls : Array Slot) (hl : lv_has ls 8 [(0, .ref (gA G 61)), (1, .int x1), (3, .int v3), (4, .int v4)]) (hF : f_X9_year_93 x1 fl v3 v4 τ = some o), W p l e (headSpec wsX9_year ({ frames := 3, cells := 0, slots := 0, locals := 70 })).room s m ([.ref (gA G 61), .int x1] : List Value).toArray below meth c H locs 0 0 (MQ below (qR G (some (.int o.1)) o.2) ([.ref (gA G 61), .int x1] : List Value).toArray s 0 0 (AG G)) (F0 m 93 ls []) := by
              intro fl93
              induction fl93 with
              | zero => intro v3 v4 τ H locs hP hS ls hl hF; cases hF
              | succ fl93 ih93 =>
                intro v3 v4 τ H locs hP hS ls hl hF
                rw [f_X9_year_93_s] at hF
                refine lv_iload hx hb dX9_year_93 (lv_at hl 3 rfl) ?_
                have J161 : ∀ (v3 : Int32) (v4 : Int32) (τ : St) (H : Heap) (locs : List Loc) (hP : Pw G τ H) (hS : va_S (AG G) s.heap H locs) (ls : Array Slot) (hl : lv_has ls 8 [(0, .ref (gA G 61)), (1, .int x1), (3, .int v3), (4, .int v4)]) (hF : f_X9_year_161 x1 v3 v4 τ = some o), W p l e (headSpec wsX9_year ({ frames := 3, cells := 0, slots := 0, locals := 70 })).room s m ([.ref (gA G 61), .int x1] : List Value).toArray below meth c H locs 0 0 (MQ below (qR G (some (.int o.1)) o.2) ([.ref (gA G 61), .int x1] : List Value).toArray s 0 0 (AG G)) (F0 m 161 ls []) := by
                  intro v3 v4 τ H locs hP hS ls hl hF
                  rw [f_X9_year_161_e] at hF
                  refine lv_iload hx hb dX9_year_161 (lv_at hl 3 rfl) ?_
                  refine lv_if_ne (tgt := 170) hx hb dX9_year_163 (by decide) (fun c9 => ?_) (fun c9 => ?_)
                  · have hF := ite_f c9 hF
                    refine lv_iload hx hb dX9_year_170 (lv_at hl 3 rfl) ?_
                    exact e_iS hx hb hr hP hS hlocks dX9_year_172 hF
                  · have hF := ite_t c9 hF
                    refine lv_iload_n hx hb dX9_year_166 rfl (lv_at hl 2 rfl) ?_
                    refine lv_goto (tgt := 172) hx hb dX9_year_167 (by decide) ?_
                    exact e_iS hx hb hr hP hS hlocks dX9_year_172 hF
                refine lv_if_ne (tgt := 161) hx hb dX9_year_95 (by decide) (fun c10 => ?_) (fun c10 => ?_)
                · have hF := ite_f c10 hF
                  exact J161 v3 v4 τ _ _ hP hS ls (lv_sub hl [0, 1, 2, 3] rfl) hF
                · have hF := ite_t c10 hF
                  refine lv_aload_n hx hb dX9_year_98 rfl (lv_at hl 0 rfl) ?_
                  refine va_get (ci := 5) (C := RX9) (T := TX9) (N := 21) (v := .int (τ 61 9)) hx hb hts inX9 hown hK.1 hP 61 (at_5 rfl) rfl 9 (by decide) w4 (fun _ h9 => h9) rfl dX9_year_99 ?_
                  refine lv_aload_n hx hb dX9_year_102 rfl (lv_at hl 0 rfl) ?_
                  refine va_get (ci := 5) (C := RX9) (T := TX9) (N := 21) (v := .int (τ 61 11)) hx hb hts inX9 hown hK.1 hP 61 (at_5 rfl) rfl 11 (by decide) w3 (fun _ h9 => h9) rfl dX9_year_103 ?_
                  refine lv_icmp_ge (tgt := 161) hx hb dX9_year_106 (by decide) (fun c11 => ?_) (fun c11 => ?_)
                  · have hF := ite_t c11 hF
                    exact J161 v3 v4 τ _ _ hP hS ls (lv_sub hl [0, 1, 2, 3] rfl) hF
                  · have hF := ite_f c11 hF
                    refine lv_aload_n hx hb dX9_year_109 rfl (lv_at hl 0 rfl) ?_
                    refine va_get (ci := 5) (C := RX9) (T := TX9) (N := 21) (v := .int (τ 61 9)) hx hb hts inX9 hown hK.1 hP 61 (at_5 rfl) rfl 9 (by decide) w4 (fun _ h9 => h9) rfl dX9_year_110 ?_
                    refine lv_istore (lv' := [(5, .int (τ 61 9)), (0, .ref (gA G 61)), (1, .int x1), (3, .int v3), (4, .int v4)]) hx hb dX9_year_113 hl (by decide) rfl (fun ls hl => ?_)
                    refine lv_aload_n hx hb dX9_year_115 rfl (lv_at hl 1 rfl) ?_
                    obtain ⟨q12, h13, hF⟩ := ob_some hF
                    refine k_Vv (As := []) (rest := []) Z hK hP hS (t_X9_here l G hG τ _ h13) (cwV 0 hts gX9_year_X9_here rfl rfl rfl (by decide +kernel) ⟨Nat.le_of_ble_eq_true rfl, Nat.le_of_ble_eq_true rfl⟩) (at_5 rfl) rfl rfl hl.1 rfl (Nat.le_of_ble_eq_true rfl) ⟨Nat.zero_le _, Nat.zero_le _⟩ dX9_year_116 (fun H locs hP hS => ?_)
                    refine lv_istore (lv' := [(6, .int q12), (5, .int (τ 61 9)), (0, .ref (gA G 61)), (1, .int x1), (3, .int v3), (4, .int v4)]) hx hb dX9_year_119 hl (by decide) rfl (fun ls hl => ?_)
                    refine lv_aload_n hx hb dX9_year_121 rfl (lv_at hl 2 rfl) ?_
                    obtain ⟨q14, h15, hF⟩ := ob_some hF
                    refine k_Vv (As := []) (rest := []) Z hK hP hS (t_X9_readsStatement l G hG τ _ h15) (cwV 0 hts gX9_year_X9_readsStatement rfl rfl rfl (by decide +kernel) ⟨Nat.le_of_ble_eq_true rfl, Nat.le_of_ble_eq_true rfl⟩) (at_5 rfl) rfl rfl hl.1 rfl (Nat.le_of_ble_eq_true rfl) ⟨Nat.zero_le _, Nat.zero_le _⟩ dX9_year_122 (fun H locs hP hS => ?_)
                    refine lv_istore (lv' := [(7, .int (b2i q14.1)), (6, .int q12), (5, .int (τ 61 9)), (0, .ref (gA G 61)), (1, .int x1), (3, .int v3), (4, .int v4)]) hx hb dX9_year_125 hl (by decide) rfl (fun ls hl => ?_)
                    refine lv_aload_n hx hb dX9_year_127 rfl (lv_at hl 3 rfl) ?_
                    refine lv_iload hx hb dX9_year_128 (lv_at hl 1 rfl) ?_
                    obtain ⟨q16, h17, hF⟩ := ob_some hF
                    refine k_Vv (As := [.int q12]) (rest := []) Z hK hP hS (t_X9_isDone l G hG q12 q14.2 _ h17) (cwV 1 hts gX9_year_X9_isDone rfl rfl rfl (by decide +kernel) ⟨Nat.le_of_ble_eq_true rfl, Nat.le_of_ble_eq_true rfl⟩) (at_5 rfl) rfl rfl hl.1 rfl (Nat.le_of_ble_eq_true rfl) ⟨Nat.zero_le _, Nat.zero_le _⟩ dX9_year_130 (fun H locs hP hS => ?_)
                    refine lv_if_eq (tgt := 139) hx hb dX9_year_133 (by decide) (fun c18 => ?_) (fun c18 => ?_)
                    · have hF := ite_f (b2i_e0 c18) hF
                      refine lv_sipush (v := -2000) hx hb dX9_year_139 (by decide) ?_
                      refine lv_iload hx hb dX9_year_142 (lv_at hl 2 rfl) ?_
                      refine lv_isub hx hb dX9_year_144 ?_
                      refine lv_istore (lv' := [(4, .int ((-2000 : Int32) - (τ 61 9))), (7, .int (b2i q14.1)), (6, .int q12), (5, .int (τ 61 9)), (0, .ref (gA G 61)), (1, .int x1), (3, .int v3)]) hx hb dX9_year_145 hl (by decide) rfl (fun ls hl => ?_)
                      refine lv_aload_n hx hb dX9_year_147 rfl (lv_at hl 4 rfl) ?_
                      refine va_get (ci := 5) (C := RX9) (T := TX9) (N := 21) (v := .ref (gA G 65)) hx hb hts inX9 hown hK.1 hP 61 (at_5 rfl) rfl 3 (by decide) w6 (fun _ h9 => h9) rfl dX9_year_148 ?_
                      refine lv_aload_n hx hb dX9_year_151 rfl (lv_at hl 4 rfl) ?_
                      refine va_get (ci := 5) (C := RX9) (T := TX9) (N := 21) (v := .ref (gA G 62)) hx hb hts inX9 hown hK.1 hP 61 (at_5 rfl) rfl 0 (by decide) w5 (fun _ h9 => h9) rfl dX9_year_152 ?_
                      obtain ⟨q19, h20, hF⟩ := ob_some hF
                      refine k_S0 (As := [.ref (gA G 65), .ref (gA G 62)]) (rest := []) Z hK hP hS (t_X9_copies l G hG 65 62 ⟨(rfl : kd 65 = 6), (rfl : ln 65 = 52)⟩ ⟨(rfl : kd 62 = 6), (rfl : ln 62 = 52)⟩ q16.2 _ h20) (va_cwS 2 hts gX9_year_X9_copies rfl rfl rfl (by decide +kernel) ⟨Nat.le_of_ble_eq_true rfl, Nat.le_of_ble_eq_true rfl⟩) rfl hl.1 rfl (Nat.le_of_ble_eq_true rfl) ⟨Nat.zero_le _, Nat.zero_le _⟩ dX9_year_155 (fun H locs hP hS => ?_)
                      refine lv_goto (tgt := 93) hx hb dX9_year_158 (by decide) ?_
                      exact ih93 v3 ((-2000 : Int32) - (τ 61 9)) q19 _ _ hP hS ls (lv_sub hl [4, 5, 6, 0] rfl) hF
                    · have hF := ite_t (b2i_n0 c18) hF
                      refine lv_goto (tgt := 93) hx hb dX9_year_136 (by decide) ?_
                      exact ih93 v3 v4 q16.2 _ _ hP hS ls (lv_sub hl [3, 4, 5, 6] rfl) hF
            refine va_put (ci := 5) (C := RX9) (T := TX9) (N := 21) (v := .int (0 : Int32)) (ty := .int) hx hb hts inX9 tyX9 tyX9_ok nmX9 hown hK.1 hP (Dw.D hG) hS 61 (at_5 rfl) rfl 9 (by decide) w4 (fun _ h9 => h9) rfl (by decide +kernel) rfl rfl (Nat.le_of_ble_eq_true rfl) dX9_year_90 (fun H locs hP _ hS => ?_)
            have hP := Pw.of hP (set_5_9 rfl)
            exact J93 fu v3 v4 (up q7 61 9 (0 : Int32)) _ _ hP hS ls (lv_sub hl [0, 1, 2, 3] rfl) hF
          refine lv_if_ne (tgt := 77) hx hb dX9_year_63 (by decide) (fun c21 => ?_) (fun c21 => ?_)
          · have hF := ite_f c21 hF
            exact J77 (v3 + (1 : Int32)) v4 τ _ _ hP hS ls (lv_sub hl [1, 2, 0, 3] rfl) hF
          · have hF := ite_t c21 hF
            refine lv_aload_n hx hb dX9_year_66 rfl (lv_at hl 1 rfl) ?_
            refine va_get (ci := 5) (C := RX9) (T := TX9) (N := 21) (v := .int (τ 61 9)) hx hb hts inX9 hown hK.1 hP 61 (at_5 rfl) rfl 9 (by decide) w4 (fun _ h9 => h9) rfl dX9_year_67 ?_
            refine lv_aload_n hx hb dX9_year_70 rfl (lv_at hl 1 rfl) ?_
            refine va_get (ci := 5) (C := RX9) (T := TX9) (N := 21) (v := .int (τ 61 11)) hx hb hts inX9 hown hK.1 hP 61 (at_5 rfl) rfl 11 (by decide) w3 (fun _ h9 => h9) rfl dX9_year_71 ?_
            refine lv_icmp_lt (tgt := 41) hx hb dX9_year_74 (by decide) (fun c22 => ?_) (fun c22 => ?_)
            · have hF := ite_t c22 hF
              exact ih41 (v3 + (1 : Int32)) v4 τ _ _ hP hS ls (lv_sub hl [1, 2, 0, 3] rfl) hF
            · have hF := ite_f c22 hF
              exact J77 (v3 + (1 : Int32)) v4 τ _ _ hP hS ls (lv_sub hl [1, 2, 0, 3] rfl) hF
        refine lv_if_ne (tgt := 58) hx hb dX9_year_45 (by decide) (fun c23 => ?_) (fun c23 => ?_)
        · have hF := ite_t (b2i_n0 c23) hF
          exact J58 v3 v4 q5.2 _ _ hP hS ls (lv_sub hl [0, 1, 2, 3] rfl) hF
        · have hF := ite_f (b2i_e0 c23) hF
          refine lv_sipush (v := -1000) hx hb dX9_year_48 (by decide) ?_
          refine lv_aload_n hx hb dX9_year_51 rfl (lv_at hl 0 rfl) ?_
          refine va_get (ci := 5) (C := RX9) (T := TX9) (N := 21) (v := .int (q5.2 61 9)) hx hb hts inX9 hown hK.1 hP 61 (at_5 rfl) rfl 9 (by decide) w4 (fun _ h9 => h9) rfl dX9_year_52 ?_
          refine lv_isub hx hb dX9_year_55 ?_
          refine lv_istore (lv' := [(4, .int ((-1000 : Int32) - (q5.2 61 9))), (0, .ref (gA G 61)), (1, .int x1), (3, .int v3)]) hx hb dX9_year_56 hl (by decide) rfl (fun ls hl => ?_)
          exact J58 v3 ((-1000 : Int32) - (q5.2 61 9)) q5.2 _ _ hP hS ls (lv_sub hl [1, 2, 3, 0] rfl) hF
    refine lv_istore (lv' := [(4, .int (0 : Int32)), (3, .int (0 : Int32)), (2, .int q1), (0, .ref (gA G 61)), (1, .int x1)]) hx hb dX9_year_39 hl (by decide) rfl (fun ls hl => ?_)
    exact J41 fu (0 : Int32) (0 : Int32) (up (up (up σ 61 10 ((100 : Int32) * x1)) 61 11 ((up σ 61 10 ((100 : Int32) * x1)) 73 x1.toNatClampNeg)) 61 9 (0 : Int32)) _ _ hP hS ls (lv_sub hl [3, 4, 1, 0] rfl) hF
  · have hF := ite_f c3 hF
    refine lv_iload_n hx hb dX9_year_11 rfl (lv_at hl 0 rfl) ?_
    exact e_iS hx hb hr hP hS hlocks dX9_year_12 hF
def f_X9_deed (x1 : Int32) (x2 : Int32) (σ : St) : Option Int32 := (ob (f_X9_isDeed x1 σ) (fun q1 => if q1 = true then (if (f_X9_isIn x2 (0 : Int32) (7 : Int32)) = true then (if inb (f_X9_of x1 (0 : Int32)) 52 then if inb (f_X9_of x1 (1 : Int32)) 52 then if (5 : Int32) ≤ x2 then (if x2 = (5 : Int32) then (some (f_X9_lasts (σ 62 (f_X9_of x1 (0 : Int32)).toNatClampNeg) (σ 62 (f_X9_of x1 (1 : Int32)).toNatClampNeg))) else (if x2 = (6 : Int32) then (some (f_X9_own (σ 62 (f_X9_of x1 (0 : Int32)).toNatClampNeg) (σ 62 (f_X9_of x1 (1 : Int32)).toNatClampNeg))) else (some (f_X9_points (σ 62 (f_X9_of x1 (0 : Int32)).toNatClampNeg) (σ 62 (f_X9_of x1 (1 : Int32)).toNatClampNeg))))) else (if inb (f_X9_of x1 x2) 52 then some (σ 62 (f_X9_of x1 x2).toNatClampNeg) else none) else none else none) else (some (-1 : Int32))) else (some (-1 : Int32))))
set_option maxRecDepth 100000 in
set_option maxHeartbeats 4000000 in
theorem t_X9_deed (l : Launch) (G : GT) (hG : Dw G) (x1 : Int32) (x2 : Int32) (σ : St) (o : Int32) (hF : f_X9_deed x1 x2 σ = some o) : Ct l G yX9_deed wsX9_deed 2 43 [.ref (gA G 61), .int x1, .int x2] σ (some (.int o)) σ := by
  refine Met.ofW (cc := cX9_deed) (maxL := 5) (ret := (some .int)) (by decide) rfl ?_
  intro p e s m args below meth c s₁ B hml hv
  obtain ⟨rfl, hP, hK⟩ := hv
  have hx := B.exec
  have hb := B.bytes
  have hr := B.returns
  have hts := atoms_spec (ws := wsX9_deed) B.pre
  have hown : s.vm.findClass RX9 = some m.cls := findClass_of_methodNamed B.named
  have hlocks := B.notSynchronized
  have Z : CallFix p m c cX9_deed 5 s _ wsX9_deed RX9 := ⟨hx, hb, hml, hown, hts⟩
  have hS : va_S (AG G) s.heap s.heap [] := va_S.rf
  have inX9 : ∀ w ∈ u_ws RX9 TX9 21, w ∈ wsX9_deed := by decide +kernel
  have w1 := hts (.fieldLink RX9 9 "AlmanacOfTheYearGoneModel" "s" "[I") (by decide +kernel)
  have hl := lv_entry ([.ref (gA G 61), .int x1, .int x2]) (n := 5) (Nat.le_of_ble_eq_true rfl)
  rw [lg_entry_eq]
  generalize (lg_sl ([.ref (gA G 61), .int x1, .int x2]) ++ List.replicate (5 - (lg_sl ([.ref (gA G 61), .int x1, .int x2])).length) Slot.unset).toArray = ls at hl ⊢
  have hl : lv_has ls 5 [(0, .ref (gA G 61)), (1, .int x1), (2, .int x2)] := hl
  unfold f_X9_deed at hF
  refine lv_aload_n hx hb dX9_deed_0 rfl (lv_at hl 0 rfl) ?_
  refine lv_iload_n hx hb dX9_deed_1 rfl (lv_at hl 1 rfl) ?_
  obtain ⟨q1, h2, hF⟩ := ob_some hF
  refine k_Vv (As := [.int x1]) (rest := []) Z hK hP hS (t_X9_isDeed l G hG x1 σ _ h2) (cwV 1 hts gX9_deed_X9_isDeed rfl rfl rfl (by decide +kernel) ⟨Nat.le_of_ble_eq_true rfl, Nat.le_of_ble_eq_true rfl⟩) (at_5 rfl) rfl rfl hl.1 rfl (Nat.le_of_ble_eq_true rfl) ⟨Nat.zero_le _, Nat.zero_le _⟩ dX9_deed_2 (fun H locs hP hS => ?_)
  refine lv_if_eq (tgt := 18) hx hb dX9_deed_5 (by decide) (fun c3 => ?_) (fun c3 => ?_)
  · have hF := ite_f (b2i_e0 c3) hF
    refine lv_iconst (v := -1) hx hb dX9_deed_18 (by decide) ?_
    exact e_iP hx hb hr hP hS hlocks dX9_deed_19 hF
  · have hF := ite_t (b2i_n0 c3) hF
    refine lv_iload_n hx hb dX9_deed_8 rfl (lv_at hl 2 rfl) ?_
    refine lv_iconst (v := 0) hx hb dX9_deed_9 (by decide) ?_
    refine lv_bipush (v := 7) hx hb dX9_deed_10 (by decide) ?_
    refine k_Sv (As := [.int x2, .int (0 : Int32), .int (7 : Int32)]) (rest := []) Z hK hP hS (t_X9_isIn l G hG x2 (0 : Int32) (7 : Int32) σ) (va_cwS 3 hts gX9_deed_X9_isIn rfl rfl rfl (by decide +kernel) ⟨Nat.le_of_ble_eq_true rfl, Nat.le_of_ble_eq_true rfl⟩) rfl hl.1 rfl (Nat.le_of_ble_eq_true rfl) ⟨Nat.zero_le _, Nat.zero_le _⟩ dX9_deed_12 (fun H locs hP hS => ?_)
    refine lv_if_ne (tgt := 20) hx hb dX9_deed_15 (by decide) (fun c4 => ?_) (fun c4 => ?_)
    · have hF := ite_t (b2i_n0 c4) hF
      refine lv_aload_n hx hb dX9_deed_20 rfl (lv_at hl 0 rfl) ?_
      refine va_get (ci := 5) (C := RX9) (T := TX9) (N := 21) (v := .ref (gA G 62)) hx hb hts inX9 hown hK.1 hP 61 (at_5 rfl) rfl 0 (by decide) w1 (fun _ h9 => h9) rfl dX9_deed_21 ?_
      refine lv_iload_n hx hb dX9_deed_24 rfl (lv_at hl 1 rfl) ?_
      refine lv_iconst (v := 0) hx hb dX9_deed_25 (by decide) ?_
      refine k_Sv (As := [.int x1, .int (0 : Int32)]) (rest := [.ref (gA G 62)]) Z hK hP hS (t_X9_of l G hG x1 (0 : Int32) σ) (va_cwS 2 hts gX9_deed_X9_of rfl rfl rfl (by decide +kernel) ⟨Nat.le_of_ble_eq_true rfl, Nat.le_of_ble_eq_true rfl⟩) rfl hl.1 rfl (Nat.le_of_ble_eq_true rfl) ⟨Nat.zero_le _, Nat.zero_le _⟩ dX9_deed_26 (fun H locs hP hS => ?_)
      obtain ⟨b5, hF⟩ := ite_some hF
      refine va_iald hx hb hK.1 hP 62 0 (at_6 (rfl : kd 62 = 6) (rfl : ln 62 = 52)) rfl (inb_in b5) dX9_deed_29 ?_
      refine lv_istore_n (lv' := [(3, .int (σ 62 (f_X9_of x1 (0 : Int32)).toNatClampNeg)), (0, .ref (gA G 61)), (1, .int x1), (2, .int x2)]) hx hb dX9_deed_30 rfl hl (by decide) rfl (fun ls hl => ?_)
      refine lv_aload_n hx hb dX9_deed_31 rfl (lv_at hl 1 rfl) ?_
      refine va_get (ci := 5) (C := RX9) (T := TX9) (N := 21) (v := .ref (gA G 62)) hx hb hts inX9 hown hK.1 hP 61 (at_5 rfl) rfl 0 (by decide) w1 (fun _ h9 => h9) rfl dX9_deed_32 ?_
      refine lv_iload_n hx hb dX9_deed_35 rfl (lv_at hl 2 rfl) ?_
      refine lv_iconst (v := 1) hx hb dX9_deed_36 (by decide) ?_
      refine k_Sv (As := [.int x1, .int (1 : Int32)]) (rest := [.ref (gA G 62)]) Z hK hP hS (t_X9_of l G hG x1 (1 : Int32) σ) (va_cwS 2 hts gX9_deed_X9_of rfl rfl rfl (by decide +kernel) ⟨Nat.le_of_ble_eq_true rfl, Nat.le_of_ble_eq_true rfl⟩) rfl hl.1 rfl (Nat.le_of_ble_eq_true rfl) ⟨Nat.zero_le _, Nat.zero_le _⟩ dX9_deed_37 (fun H locs hP hS => ?_)
      obtain ⟨b6, hF⟩ := ite_some hF
      refine va_iald hx hb hK.1 hP 62 0 (at_6 (rfl : kd 62 = 6) (rfl : ln 62 = 52)) rfl (inb_in b6) dX9_deed_40 ?_
      refine lv_istore (lv' := [(4, .int (σ 62 (f_X9_of x1 (1 : Int32)).toNatClampNeg)), (3, .int (σ 62 (f_X9_of x1 (0 : Int32)).toNatClampNeg)), (0, .ref (gA G 61)), (1, .int x1), (2, .int x2)]) hx hb dX9_deed_41 hl (by decide) rfl (fun ls hl => ?_)
      refine lv_iload_n hx hb dX9_deed_43 rfl (lv_at hl 4 rfl) ?_
      refine lv_iconst (v := 5) hx hb dX9_deed_44 (by decide) ?_
      refine lv_icmp_ge (tgt := 61) hx hb dX9_deed_45 (by decide) (fun c7 => ?_) (fun c7 => ?_)
      · have hF := ite_t c7 hF
        refine lv_iload_n hx hb dX9_deed_61 rfl (lv_at hl 4 rfl) ?_
        refine lv_iconst (v := 5) hx hb dX9_deed_62 (by decide) ?_
        refine lv_icmp_ne (tgt := 75) hx hb dX9_deed_63 (by decide) (fun c8 => ?_) (fun c8 => ?_)
        · have hF := ite_f c8 hF
          refine lv_iload_n hx hb dX9_deed_75 rfl (lv_at hl 4 rfl) ?_
          refine lv_bipush (v := 6) hx hb dX9_deed_76 (by decide) ?_
          refine lv_icmp_ne (tgt := 90) hx hb dX9_deed_78 (by decide) (fun c9 => ?_) (fun c9 => ?_)
          · have hF := ite_f c9 hF
            refine lv_iload_n hx hb dX9_deed_90 rfl (lv_at hl 1 rfl) ?_
            refine lv_iload hx hb dX9_deed_91 (lv_at hl 0 rfl) ?_
            refine k_Sv (As := [.int (σ 62 (f_X9_of x1 (0 : Int32)).toNatClampNeg), .int (σ 62 (f_X9_of x1 (1 : Int32)).toNatClampNeg)]) (rest := []) Z hK hP hS (t_X9_points l G hG (σ 62 (f_X9_of x1 (0 : Int32)).toNatClampNeg) (σ 62 (f_X9_of x1 (1 : Int32)).toNatClampNeg) σ) (va_cwS 2 hts gX9_deed_X9_points rfl rfl rfl (by decide +kernel) ⟨Nat.le_of_ble_eq_true rfl, Nat.le_of_ble_eq_true rfl⟩) rfl hl.1 rfl (Nat.le_of_ble_eq_true rfl) ⟨Nat.zero_le _, Nat.zero_le _⟩ dX9_deed_93 (fun H locs hP hS => ?_)
            exact e_iP hx hb hr hP hS hlocks dX9_deed_96 hF
          · have hF := ite_t c9 hF
            refine lv_iload_n hx hb dX9_deed_81 rfl (lv_at hl 1 rfl) ?_
            refine lv_iload hx hb dX9_deed_82 (lv_at hl 0 rfl) ?_
            refine k_Sv (As := [.int (σ 62 (f_X9_of x1 (0 : Int32)).toNatClampNeg), .int (σ 62 (f_X9_of x1 (1 : Int32)).toNatClampNeg)]) (rest := []) Z hK hP hS (t_X9_own l G hG (σ 62 (f_X9_of x1 (0 : Int32)).toNatClampNeg) (σ 62 (f_X9_of x1 (1 : Int32)).toNatClampNeg) σ) (va_cwS 2 hts gX9_deed_X9_own rfl rfl rfl (by decide +kernel) ⟨Nat.le_of_ble_eq_true rfl, Nat.le_of_ble_eq_true rfl⟩) rfl hl.1 rfl (Nat.le_of_ble_eq_true rfl) ⟨Nat.zero_le _, Nat.zero_le _⟩ dX9_deed_84 (fun H locs hP hS => ?_)
            refine lv_goto (tgt := 96) hx hb dX9_deed_87 (by decide) ?_
            exact e_iP hx hb hr hP hS hlocks dX9_deed_96 hF
        · have hF := ite_t c8 hF
          refine lv_iload_n hx hb dX9_deed_66 rfl (lv_at hl 1 rfl) ?_
          refine lv_iload hx hb dX9_deed_67 (lv_at hl 0 rfl) ?_
          refine k_Sv (As := [.int (σ 62 (f_X9_of x1 (0 : Int32)).toNatClampNeg), .int (σ 62 (f_X9_of x1 (1 : Int32)).toNatClampNeg)]) (rest := []) Z hK hP hS (t_X9_lasts l G hG (σ 62 (f_X9_of x1 (0 : Int32)).toNatClampNeg) (σ 62 (f_X9_of x1 (1 : Int32)).toNatClampNeg) σ) (va_cwS 2 hts gX9_deed_X9_lasts rfl rfl rfl (by decide +kernel) ⟨Nat.le_of_ble_eq_true rfl, Nat.le_of_ble_eq_true rfl⟩) rfl hl.1 rfl (Nat.le_of_ble_eq_true rfl) ⟨Nat.zero_le _, Nat.zero_le _⟩ dX9_deed_69 (fun H locs hP hS => ?_)
          refine lv_goto (tgt := 96) hx hb dX9_deed_72 (by decide) ?_
          exact e_iP hx hb hr hP hS hlocks dX9_deed_96 hF
      · have hF := ite_f c7 hF
        refine lv_aload_n hx hb dX9_deed_48 rfl (lv_at hl 2 rfl) ?_
        refine va_get (ci := 5) (C := RX9) (T := TX9) (N := 21) (v := .ref (gA G 62)) hx hb hts inX9 hown hK.1 hP 61 (at_5 rfl) rfl 0 (by decide) w1 (fun _ h9 => h9) rfl dX9_deed_49 ?_
        refine lv_iload_n hx hb dX9_deed_52 rfl (lv_at hl 3 rfl) ?_
        refine lv_iload_n hx hb dX9_deed_53 rfl (lv_at hl 4 rfl) ?_
        refine k_Sv (As := [.int x1, .int x2]) (rest := [.ref (gA G 62)]) Z hK hP hS (t_X9_of l G hG x1 x2 σ) (va_cwS 2 hts gX9_deed_X9_of rfl rfl rfl (by decide +kernel) ⟨Nat.le_of_ble_eq_true rfl, Nat.le_of_ble_eq_true rfl⟩) rfl hl.1 rfl (Nat.le_of_ble_eq_true rfl) ⟨Nat.zero_le _, Nat.zero_le _⟩ dX9_deed_54 (fun H locs hP hS => ?_)
        obtain ⟨b10, hF⟩ := ite_some hF
        refine va_iald hx hb hK.1 hP 62 0 (at_6 (rfl : kd 62 = 6) (rfl : ln 62 = 52)) rfl (inb_in b10) dX9_deed_57 ?_
        refine lv_goto (tgt := 96) hx hb dX9_deed_58 (by decide) ?_
        exact e_iP hx hb hr hP hS hlocks dX9_deed_96 hF
    · have hF := ite_f (b2i_e0 c4) hF
      refine lv_iconst (v := -1) hx hb dX9_deed_18 (by decide) ?_
      exact e_iP hx hb hr hP hS hlocks dX9_deed_19 hF
def f_X9_guilt (x1 : Int32) (σ : St) : Option Int32 := (ob (f_X9_isDeed x1 σ) (fun q1 => if q1 = true then (if inb (f_X9_of x1 (0 : Int32)) 52 then if inb (f_X9_of x1 (1 : Int32)) 52 then some (f_X9_guiltBy (σ 62 (f_X9_of x1 (0 : Int32)).toNatClampNeg) (σ 62 (f_X9_of x1 (1 : Int32)).toNatClampNeg)) else none else none) else (some (1000000001 : Int32))))
set_option maxRecDepth 100000 in
set_option maxHeartbeats 4000000 in
theorem t_X9_guilt (l : Launch) (G : GT) (hG : Dw G) (x1 : Int32) (σ : St) (o : Int32) (hF : f_X9_guilt x1 σ = some o) : Ct l G yX9_guilt wsX9_guilt 2 43 [.ref (gA G 61), .int x1] σ (some (.int o)) σ := by
  refine Met.ofW (cc := cX9_guilt) (maxL := 2) (ret := (some .int)) (by decide) rfl ?_
  intro p e s m args below meth c s₁ B hml hv
  obtain ⟨rfl, hP, hK⟩ := hv
  have hx := B.exec
  have hb := B.bytes
  have hr := B.returns
  have hts := atoms_spec (ws := wsX9_guilt) B.pre
  have hown : s.vm.findClass RX9 = some m.cls := findClass_of_methodNamed B.named
  have hlocks := B.notSynchronized
  have Z : CallFix p m c cX9_guilt 2 s _ wsX9_guilt RX9 := ⟨hx, hb, hml, hown, hts⟩
  have hS : va_S (AG G) s.heap s.heap [] := va_S.rf
  have inX9 : ∀ w ∈ u_ws RX9 TX9 21, w ∈ wsX9_guilt := by decide +kernel
  have w1 := hts (.constant RX9 142 (1000000001)) (by decide +kernel)
  have w2 := hts (.fieldLink RX9 9 "AlmanacOfTheYearGoneModel" "s" "[I") (by decide +kernel)
  have hl := lv_entry ([.ref (gA G 61), .int x1]) (n := 2) (Nat.le_of_ble_eq_true rfl)
  rw [lg_entry_eq]
  generalize (lg_sl ([.ref (gA G 61), .int x1]) ++ List.replicate (2 - (lg_sl ([.ref (gA G 61), .int x1])).length) Slot.unset).toArray = ls at hl ⊢
  have hl : lv_has ls 2 [(0, .ref (gA G 61)), (1, .int x1)] := hl
  unfold f_X9_guilt at hF
  refine lv_aload_n hx hb dX9_guilt_0 rfl (lv_at hl 0 rfl) ?_
  refine lv_iload_n hx hb dX9_guilt_1 rfl (lv_at hl 1 rfl) ?_
  obtain ⟨q1, h2, hF⟩ := ob_some hF
  refine k_Vv (As := [.int x1]) (rest := []) Z hK hP hS (t_X9_isDeed l G hG x1 σ _ h2) (cwV 1 hts gX9_guilt_X9_isDeed rfl rfl rfl (by decide +kernel) ⟨Nat.le_of_ble_eq_true rfl, Nat.le_of_ble_eq_true rfl⟩) (at_5 rfl) rfl rfl hl.1 rfl (Nat.le_of_ble_eq_true rfl) ⟨Nat.zero_le _, Nat.zero_le _⟩ dX9_guilt_2 (fun H locs hP hS => ?_)
  refine lv_if_eq (tgt := 34) hx hb dX9_guilt_5 (by decide) (fun c3 => ?_) (fun c3 => ?_)
  · have hF := ite_f (b2i_e0 c3) hF
    refine lv_ldc hx hb hown w1 dX9_guilt_34 ?_
    exact e_iP hx hb hr hP hS hlocks dX9_guilt_36 hF
  · have hF := ite_t (b2i_n0 c3) hF
    refine lv_aload_n hx hb dX9_guilt_8 rfl (lv_at hl 0 rfl) ?_
    refine va_get (ci := 5) (C := RX9) (T := TX9) (N := 21) (v := .ref (gA G 62)) hx hb hts inX9 hown hK.1 hP 61 (at_5 rfl) rfl 0 (by decide) w2 (fun _ h9 => h9) rfl dX9_guilt_9 ?_
    refine lv_iload_n hx hb dX9_guilt_12 rfl (lv_at hl 1 rfl) ?_
    refine lv_iconst (v := 0) hx hb dX9_guilt_13 (by decide) ?_
    refine k_Sv (As := [.int x1, .int (0 : Int32)]) (rest := [.ref (gA G 62)]) Z hK hP hS (t_X9_of l G hG x1 (0 : Int32) σ) (va_cwS 2 hts gX9_guilt_X9_of rfl rfl rfl (by decide +kernel) ⟨Nat.le_of_ble_eq_true rfl, Nat.le_of_ble_eq_true rfl⟩) rfl hl.1 rfl (Nat.le_of_ble_eq_true rfl) ⟨Nat.zero_le _, Nat.zero_le _⟩ dX9_guilt_14 (fun H locs hP hS => ?_)
    obtain ⟨b4, hF⟩ := ite_some hF
    refine va_iald hx hb hK.1 hP 62 0 (at_6 (rfl : kd 62 = 6) (rfl : ln 62 = 52)) rfl (inb_in b4) dX9_guilt_17 ?_
    refine lv_aload_n hx hb dX9_guilt_18 rfl (lv_at hl 0 rfl) ?_
    refine va_get (ci := 5) (C := RX9) (T := TX9) (N := 21) (v := .ref (gA G 62)) hx hb hts inX9 hown hK.1 hP 61 (at_5 rfl) rfl 0 (by decide) w2 (fun _ h9 => h9) rfl dX9_guilt_19 ?_
    refine lv_iload_n hx hb dX9_guilt_22 rfl (lv_at hl 1 rfl) ?_
    refine lv_iconst (v := 1) hx hb dX9_guilt_23 (by decide) ?_
    refine k_Sv (As := [.int x1, .int (1 : Int32)]) (rest := [.ref (gA G 62), .int (σ 62 (f_X9_of x1 (0 : Int32)).toNatClampNeg)]) Z hK hP hS (t_X9_of l G hG x1 (1 : Int32) σ) (va_cwS 2 hts gX9_guilt_X9_of rfl rfl rfl (by decide +kernel) ⟨Nat.le_of_ble_eq_true rfl, Nat.le_of_ble_eq_true rfl⟩) rfl hl.1 rfl (Nat.le_of_ble_eq_true rfl) ⟨Nat.zero_le _, Nat.zero_le _⟩ dX9_guilt_24 (fun H locs hP hS => ?_)
    obtain ⟨b5, hF⟩ := ite_some hF
    refine va_iald hx hb hK.1 hP 62 0 (at_6 (rfl : kd 62 = 6) (rfl : ln 62 = 52)) rfl (inb_in b5) dX9_guilt_27 ?_
    refine k_Sv (As := [.int (σ 62 (f_X9_of x1 (0 : Int32)).toNatClampNeg), .int (σ 62 (f_X9_of x1 (1 : Int32)).toNatClampNeg)]) (rest := []) Z hK hP hS (t_X9_guiltBy l G hG (σ 62 (f_X9_of x1 (0 : Int32)).toNatClampNeg) (σ 62 (f_X9_of x1 (1 : Int32)).toNatClampNeg) σ) (va_cwS 2 hts gX9_guilt_X9_guiltBy rfl rfl rfl (by decide +kernel) ⟨Nat.le_of_ble_eq_true rfl, Nat.le_of_ble_eq_true rfl⟩) rfl hl.1 rfl (Nat.le_of_ble_eq_true rfl) ⟨Nat.zero_le _, Nat.zero_le _⟩ dX9_guilt_28 (fun H locs hP hS => ?_)
    refine lv_goto (tgt := 36) hx hb dX9_guilt_31 (by decide) ?_
    exact e_iP hx hb hr hP hS hlocks dX9_guilt_36 hF
def f_X9_wrongKept (x1 : Int32) (σ : St) : Option Int32 := (if (f_X9_isShelf x1) = true then (if inb x1 8 then if (σ 69 x1.toNatClampNeg) = 0 then (some (-11 : Int32)) else (if inb x1 8 then if (σ 69 x1.toNatClampNeg) = (2 : Int32) then (some (-12 : Int32)) else (some (0 : Int32)) else none) else none) else (some (-1 : Int32)))
set_option maxRecDepth 100000 in
set_option maxHeartbeats 4000000 in
theorem t_X9_wrongKept (l : Launch) (G : GT) (hG : Dw G) (x1 : Int32) (σ : St) (o : Int32) (hF : f_X9_wrongKept x1 σ = some o) : Ct l G yX9_wrongKept wsX9_wrongKept 2 42 [.ref (gA G 61), .int x1] σ (some (.int o)) σ := by
  refine Met.ofW (cc := cX9_wrongKept) (maxL := 2) (ret := (some .int)) (by decide) rfl ?_
  intro p e s m args below meth c s₁ B hml hv
  obtain ⟨rfl, hP, hK⟩ := hv
  have hx := B.exec
  have hb := B.bytes
  have hr := B.returns
  have hts := atoms_spec (ws := wsX9_wrongKept) B.pre
  have hown : s.vm.findClass RX9 = some m.cls := findClass_of_methodNamed B.named
  have hlocks := B.notSynchronized
  have Z : CallFix p m c cX9_wrongKept 2 s _ wsX9_wrongKept RX9 := ⟨hx, hb, hml, hown, hts⟩
  have hS : va_S (AG G) s.heap s.heap [] := va_S.rf
  have inX9 : ∀ w ∈ u_ws RX9 TX9 21, w ∈ wsX9_wrongKept := by decide +kernel
  have w1 := hts (.fieldLink RX9 31 "AlmanacOfTheYearGoneModel" "kept" "[I") (by decide +kernel)
  have hl := lv_entry ([.ref (gA G 61), .int x1]) (n := 2) (Nat.le_of_ble_eq_true rfl)
  rw [lg_entry_eq]
  generalize (lg_sl ([.ref (gA G 61), .int x1]) ++ List.replicate (2 - (lg_sl ([.ref (gA G 61), .int x1])).length) Slot.unset).toArray = ls at hl ⊢
  have hl : lv_has ls 2 [(0, .ref (gA G 61)), (1, .int x1)] := hl
  unfold f_X9_wrongKept at hF
  refine lv_iload_n hx hb dX9_wrongKept_0 rfl (lv_at hl 1 rfl) ?_
  refine k_Sv (As := [.int x1]) (rest := []) Z hK hP hS (t_X9_isShelf l G hG x1 σ) (va_cwS 1 hts gX9_wrongKept_X9_isShelf rfl rfl rfl (by decide +kernel) ⟨Nat.le_of_ble_eq_true rfl, Nat.le_of_ble_eq_true rfl⟩) rfl hl.1 rfl (Nat.le_of_ble_eq_true rfl) ⟨Nat.zero_le _, Nat.zero_le _⟩ dX9_wrongKept_1 (fun H locs hP hS => ?_)
  refine lv_if_ne (tgt := 11) hx hb dX9_wrongKept_4 (by decide) (fun c1 => ?_) (fun c1 => ?_)
  · have hF := ite_t (b2i_n0 c1) hF
    refine lv_aload_n hx hb dX9_wrongKept_11 rfl (lv_at hl 0 rfl) ?_
    refine va_get (ci := 5) (C := RX9) (T := TX9) (N := 21) (v := .ref (gA G 69)) hx hb hts inX9 hown hK.1 hP 61 (at_5 rfl) rfl 14 (by decide) w1 (fun _ h9 => h9) rfl dX9_wrongKept_12 ?_
    refine lv_iload_n hx hb dX9_wrongKept_15 rfl (lv_at hl 1 rfl) ?_
    obtain ⟨b2, hF⟩ := ite_some hF
    refine va_iald hx hb hK.1 hP 69 0 (at_6 (rfl : kd 69 = 6) (rfl : ln 69 = 8)) rfl (inb_in b2) dX9_wrongKept_16 ?_
    refine lv_if_ne (tgt := 25) hx hb dX9_wrongKept_17 (by decide) (fun c3 => ?_) (fun c3 => ?_)
    · have hF := ite_f c3 hF
      refine lv_aload_n hx hb dX9_wrongKept_25 rfl (lv_at hl 0 rfl) ?_
      refine va_get (ci := 5) (C := RX9) (T := TX9) (N := 21) (v := .ref (gA G 69)) hx hb hts inX9 hown hK.1 hP 61 (at_5 rfl) rfl 14 (by decide) w1 (fun _ h9 => h9) rfl dX9_wrongKept_26 ?_
      refine lv_iload_n hx hb dX9_wrongKept_29 rfl (lv_at hl 1 rfl) ?_
      obtain ⟨b4, hF⟩ := ite_some hF
      refine va_iald hx hb hK.1 hP 69 0 (at_6 (rfl : kd 69 = 6) (rfl : ln 69 = 8)) rfl (inb_in b4) dX9_wrongKept_30 ?_
      refine lv_iconst (v := 2) hx hb dX9_wrongKept_31 (by decide) ?_
      refine lv_icmp_ne (tgt := 40) hx hb dX9_wrongKept_32 (by decide) (fun c5 => ?_) (fun c5 => ?_)
      · have hF := ite_f c5 hF
        refine lv_iconst (v := 0) hx hb dX9_wrongKept_40 (by decide) ?_
        exact e_iP hx hb hr hP hS hlocks dX9_wrongKept_41 hF
      · have hF := ite_t c5 hF
        refine lv_bipush (v := -12) hx hb dX9_wrongKept_35 (by decide) ?_
        refine lv_goto (tgt := 41) hx hb dX9_wrongKept_37 (by decide) ?_
        exact e_iP hx hb hr hP hS hlocks dX9_wrongKept_41 hF
    · have hF := ite_t c3 hF
      refine lv_bipush (v := -11) hx hb dX9_wrongKept_20 (by decide) ?_
      refine lv_goto (tgt := 41) hx hb dX9_wrongKept_22 (by decide) ?_
      exact e_iP hx hb hr hP hS hlocks dX9_wrongKept_41 hF
  · have hF := ite_f (b2i_e0 c1) hF
    refine lv_iconst (v := -1) hx hb dX9_wrongKept_7 (by decide) ?_
    refine lv_goto (tgt := 41) hx hb dX9_wrongKept_8 (by decide) ?_
    exact e_iP hx hb hr hP hS hlocks dX9_wrongKept_41 hF
def f_X9_done (x1 : Int32) (x2 : Int32) (x3 : Int32) (x4 : Int32) (σ : St) : Option (Int32 × St) := (if (f_X9_isDay x2) = true then (if (f_X9_isPerson x3) = true then (if (f_X9_isIn x4 (0 : Int32) (31 : Int32)) = true then (ob (f_X9_wrongKept x1 σ) (fun q4 => if q4 = 0 then (if (σ 62 0) = (10 : Int32) then (some ((-2 : Int32), σ)) else (if inb x1 8 then if inb x1 8 then ob (f_X9_adds 62 (σ 70 x1.toNatClampNeg) (σ 71 x1.toNatClampNeg) x2 x3 x4 σ) (fun q10 => some ((q10 62 0) - (1 : Int32), q10)) else none else none)) else (some (q4, σ)))) else (some ((-1 : Int32), σ))) else (some ((-1 : Int32), σ))) else (some ((-1 : Int32), σ)))
set_option maxRecDepth 100000 in
set_option maxHeartbeats 4000000 in
theorem t_X9_done (l : Launch) (G : GT) (hG : Dw G) (x1 : Int32) (x2 : Int32) (x3 : Int32) (x4 : Int32) (σ : St) (o : Int32 × St) (hF : f_X9_done x1 x2 x3 x4 σ = some o) : Ct l G yX9_done wsX9_done 3 63 [.ref (gA G 61), .int x1, .int x2, .int x3, .int x4] σ (some (.int o.1)) o.2 := by
  refine Met.ofW (cc := cX9_done) (maxL := 6) (ret := (some .int)) (by decide) rfl ?_
  intro p e s m args below meth c s₁ B hml hv
  obtain ⟨rfl, hP, hK⟩ := hv
  have hx := B.exec
  have hb := B.bytes
  have hr := B.returns
  have hts := atoms_spec (ws := wsX9_done) B.pre
  have hown : s.vm.findClass RX9 = some m.cls := findClass_of_methodNamed B.named
  have hlocks := B.notSynchronized
  have Z : CallFix p m c cX9_done 6 s _ wsX9_done RX9 := ⟨hx, hb, hml, hown, hts⟩
  have hS : va_S (AG G) s.heap s.heap [] := va_S.rf
  have inX9 : ∀ w ∈ u_ws RX9 TX9 21, w ∈ wsX9_done := by decide +kernel
  have w1 := hts (.fieldLink RX9 9 "AlmanacOfTheYearGoneModel" "s" "[I") (by decide +kernel)
  have w2 := hts (.fieldLink RX9 34 "AlmanacOfTheYearGoneModel" "keptKind" "[I") (by decide +kernel)
  have w3 := hts (.fieldLink RX9 37 "AlmanacOfTheYearGoneModel" "keptFigure" "[I") (by decide +kernel)
  have hl := lv_entry ([.ref (gA G 61), .int x1, .int x2, .int x3, .int x4]) (n := 6) (Nat.le_of_ble_eq_true rfl)
  rw [lg_entry_eq]
  generalize (lg_sl ([.ref (gA G 61), .int x1, .int x2, .int x3, .int x4]) ++ List.replicate (6 - (lg_sl ([.ref (gA G 61), .int x1, .int x2, .int x3, .int x4])).length) Slot.unset).toArray = ls at hl ⊢
  have hl : lv_has ls 6 [(0, .ref (gA G 61)), (1, .int x1), (2, .int x2), (3, .int x3), (4, .int x4)] := hl
  unfold f_X9_done at hF
  refine lv_iload_n hx hb dX9_done_0 rfl (lv_at hl 2 rfl) ?_
  refine k_Sv (As := [.int x2]) (rest := []) Z hK hP hS (t_X9_isDay l G hG x2 σ) (va_cwS 1 hts gX9_done_X9_isDay rfl rfl rfl (by decide +kernel) ⟨Nat.le_of_ble_eq_true rfl, Nat.le_of_ble_eq_true rfl⟩) rfl hl.1 rfl (Nat.le_of_ble_eq_true rfl) ⟨Nat.zero_le _, Nat.zero_le _⟩ dX9_done_1 (fun H locs hP hS => ?_)
  refine lv_if_eq (tgt := 25) hx hb dX9_done_4 (by decide) (fun c1 => ?_) (fun c1 => ?_)
  · have hF := ite_f (b2i_e0 c1) hF
    refine lv_iconst (v := -1) hx hb dX9_done_25 (by decide) ?_
    exact e_iS hx hb hr hP hS hlocks dX9_done_26 hF
  · have hF := ite_t (b2i_n0 c1) hF
    refine lv_iload_n hx hb dX9_done_7 rfl (lv_at hl 3 rfl) ?_
    refine k_Sv (As := [.int x3]) (rest := []) Z hK hP hS (t_X9_isPerson l G hG x3 σ) (va_cwS 1 hts gX9_done_X9_isPerson rfl rfl rfl (by decide +kernel) ⟨Nat.le_of_ble_eq_true rfl, Nat.le_of_ble_eq_true rfl⟩) rfl hl.1 rfl (Nat.le_of_ble_eq_true rfl) ⟨Nat.zero_le _, Nat.zero_le _⟩ dX9_done_8 (fun H locs hP hS => ?_)
    refine lv_if_eq (tgt := 25) hx hb dX9_done_11 (by decide) (fun c2 => ?_) (fun c2 => ?_)
    · have hF := ite_f (b2i_e0 c2) hF
      refine lv_iconst (v := -1) hx hb dX9_done_25 (by decide) ?_
      exact e_iS hx hb hr hP hS hlocks dX9_done_26 hF
    · have hF := ite_t (b2i_n0 c2) hF
      refine lv_iload hx hb dX9_done_14 (lv_at hl 4 rfl) ?_
      refine lv_iconst (v := 0) hx hb dX9_done_16 (by decide) ?_
      refine lv_bipush (v := 31) hx hb dX9_done_17 (by decide) ?_
      refine k_Sv (As := [.int x4, .int (0 : Int32), .int (31 : Int32)]) (rest := []) Z hK hP hS (t_X9_isIn l G hG x4 (0 : Int32) (31 : Int32) σ) (va_cwS 3 hts gX9_done_X9_isIn rfl rfl rfl (by decide +kernel) ⟨Nat.le_of_ble_eq_true rfl, Nat.le_of_ble_eq_true rfl⟩) rfl hl.1 rfl (Nat.le_of_ble_eq_true rfl) ⟨Nat.zero_le _, Nat.zero_le _⟩ dX9_done_19 (fun H locs hP hS => ?_)
      refine lv_if_ne (tgt := 27) hx hb dX9_done_22 (by decide) (fun c3 => ?_) (fun c3 => ?_)
      · have hF := ite_t (b2i_n0 c3) hF
        refine lv_aload_n hx hb dX9_done_27 rfl (lv_at hl 0 rfl) ?_
        refine lv_iload_n hx hb dX9_done_28 rfl (lv_at hl 1 rfl) ?_
        obtain ⟨q4, h5, hF⟩ := ob_some hF
        refine k_Vv (As := [.int x1]) (rest := []) Z hK hP hS (t_X9_wrongKept l G hG x1 σ _ h5) (cwV 1 hts gX9_done_X9_wrongKept rfl rfl rfl (by decide +kernel) ⟨Nat.le_of_ble_eq_true rfl, Nat.le_of_ble_eq_true rfl⟩) (at_5 rfl) rfl rfl hl.1 rfl (Nat.le_of_ble_eq_true rfl) ⟨Nat.zero_le _, Nat.zero_le _⟩ dX9_done_29 (fun H locs hP hS => ?_)
        refine lv_istore (lv' := [(5, .int q4), (0, .ref (gA G 61)), (1, .int x1), (2, .int x2), (3, .int x3), (4, .int x4)]) hx hb dX9_done_32 hl (by decide) rfl (fun ls hl => ?_)
        refine lv_iload hx hb dX9_done_34 (lv_at hl 0 rfl) ?_
        refine lv_if_eq (tgt := 42) hx hb dX9_done_36 (by decide) (fun c6 => ?_) (fun c6 => ?_)
        · have hF := ite_t c6 hF
          refine lv_aload_n hx hb dX9_done_42 rfl (lv_at hl 1 rfl) ?_
          refine va_get (ci := 5) (C := RX9) (T := TX9) (N := 21) (v := .ref (gA G 62)) hx hb hts inX9 hown hK.1 hP 61 (at_5 rfl) rfl 0 (by decide) w1 (fun _ h9 => h9) rfl dX9_done_43 ?_
          refine lv_iconst (v := 0) hx hb dX9_done_46 (by decide) ?_
          refine va_iald hx hb hK.1 hP 62 0 (at_6 (rfl : kd 62 = 6) (rfl : ln 62 = 52)) rfl (inb_in (by decide)) dX9_done_47 ?_
          refine W.eq (g2 := F0 m 48 ls ([.int (σ 62 0)])) rfl ?_
          refine lv_bipush (v := 10) hx hb dX9_done_48 (by decide) ?_
          refine lv_icmp_ne (tgt := 56) hx hb dX9_done_50 (by decide) (fun c7 => ?_) (fun c7 => ?_)
          · have hF := ite_f c7 hF
            refine lv_aload_n hx hb dX9_done_56 rfl (lv_at hl 1 rfl) ?_
            refine va_get (ci := 5) (C := RX9) (T := TX9) (N := 21) (v := .ref (gA G 62)) hx hb hts inX9 hown hK.1 hP 61 (at_5 rfl) rfl 0 (by decide) w1 (fun _ h9 => h9) rfl dX9_done_57 ?_
            refine lv_aload_n hx hb dX9_done_60 rfl (lv_at hl 1 rfl) ?_
            refine va_get (ci := 5) (C := RX9) (T := TX9) (N := 21) (v := .ref (gA G 70)) hx hb hts inX9 hown hK.1 hP 61 (at_5 rfl) rfl 15 (by decide) w2 (fun _ h9 => h9) rfl dX9_done_61 ?_
            refine lv_iload_n hx hb dX9_done_64 rfl (lv_at hl 2 rfl) ?_
            obtain ⟨b8, hF⟩ := ite_some hF
            refine va_iald hx hb hK.1 hP 70 0 (at_6 (rfl : kd 70 = 6) (rfl : ln 70 = 8)) rfl (inb_in b8) dX9_done_65 ?_
            refine lv_aload_n hx hb dX9_done_66 rfl (lv_at hl 1 rfl) ?_
            refine va_get (ci := 5) (C := RX9) (T := TX9) (N := 21) (v := .ref (gA G 71)) hx hb hts inX9 hown hK.1 hP 61 (at_5 rfl) rfl 16 (by decide) w3 (fun _ h9 => h9) rfl dX9_done_67 ?_
            refine lv_iload_n hx hb dX9_done_70 rfl (lv_at hl 2 rfl) ?_
            obtain ⟨b9, hF⟩ := ite_some hF
            refine va_iald hx hb hK.1 hP 71 0 (at_6 (rfl : kd 71 = 6) (rfl : ln 71 = 8)) rfl (inb_in b9) dX9_done_71 ?_
            refine lv_iload_n hx hb dX9_done_72 rfl (lv_at hl 3 rfl) ?_
            refine lv_iload_n hx hb dX9_done_73 rfl (lv_at hl 4 rfl) ?_
            refine lv_iload hx hb dX9_done_74 (lv_at hl 5 rfl) ?_
            obtain ⟨q10, h11, hF⟩ := ob_some hF
            refine k_S0 (As := [.ref (gA G 62), .int (σ 70 x1.toNatClampNeg), .int (σ 71 x1.toNatClampNeg), .int x2, .int x3, .int x4]) (rest := []) Z hK hP hS (t_X9_adds l G hG 62 (σ 70 x1.toNatClampNeg) (σ 71 x1.toNatClampNeg) x2 x3 x4 ⟨(rfl : kd 62 = 6), (rfl : ln 62 = 52)⟩ σ _ h11) (va_cwS 6 hts gX9_done_X9_adds rfl rfl rfl (by decide +kernel) ⟨Nat.le_of_ble_eq_true rfl, Nat.le_of_ble_eq_true rfl⟩) rfl hl.1 rfl (Nat.le_of_ble_eq_true rfl) ⟨Nat.zero_le _, Nat.zero_le _⟩ dX9_done_76 (fun H locs hP hS => ?_)
            refine lv_aload_n hx hb dX9_done_79 rfl (lv_at hl 1 rfl) ?_
            refine va_get (ci := 5) (C := RX9) (T := TX9) (N := 21) (v := .ref (gA G 62)) hx hb hts inX9 hown hK.1 hP 61 (at_5 rfl) rfl 0 (by decide) w1 (fun _ h9 => h9) rfl dX9_done_80 ?_
            refine lv_iconst (v := 0) hx hb dX9_done_83 (by decide) ?_
            refine va_iald hx hb hK.1 hP 62 0 (at_6 (rfl : kd 62 = 6) (rfl : ln 62 = 52)) rfl (inb_in (by decide)) dX9_done_84 ?_
            refine W.eq (g2 := F0 m 85 ls ([.int (q10 62 0)])) rfl ?_
            refine lv_iconst (v := 1) hx hb dX9_done_85 (by decide) ?_
            refine lv_isub hx hb dX9_done_86 ?_
            exact e_iS hx hb hr hP hS hlocks dX9_done_87 hF
          · have hF := ite_t c7 hF
            refine lv_bipush (v := -2) hx hb dX9_done_53 (by decide) ?_
            exact e_iS hx hb hr hP hS hlocks dX9_done_55 hF
        · have hF := ite_f c6 hF
          refine lv_iload hx hb dX9_done_39 (lv_at hl 0 rfl) ?_
          exact e_iS hx hb hr hP hS hlocks dX9_done_41 hF
      · have hF := ite_f (b2i_e0 c3) hF
        refine lv_iconst (v := -1) hx hb dX9_done_25 (by decide) ?_
        exact e_iS hx hb hr hP hS hlocks dX9_done_26 hF
def f_X9_sees (x1 : Int32) (x2 : Int32) (σ : St) : Option (Int32 × St) := (ob (f_X9_isDeed x1 σ) (fun q1 => if q1 = true then (if (f_X9_isPerson x2) = true then (if inb (f_X9_of x1 (3 : Int32)) 52 then if (σ 62 (f_X9_of x1 (3 : Int32)).toNatClampNeg) = x2 then (some ((-3 : Int32), σ)) else (if inb (f_X9_of x1 (4 : Int32)) 52 then if inb (f_X9_of x1 (4 : Int32)) 52 then if inb (f_X9_of x1 (4 : Int32)) 52 then some ((((up σ 62 ((f_X9_of x1 (4 : Int32)).toNatClampNeg) ((σ 62 (f_X9_of x1 (4 : Int32)).toNatClampNeg) ^^^ ((1 : Int32) <<< (x2 &&& 31)))) 62 (f_X9_of x1 (4 : Int32)).toNatClampNeg) >>> (x2 &&& 31)) &&& (1 : Int32), up σ 62 ((f_X9_of x1 (4 : Int32)).toNatClampNeg) ((σ 62 (f_X9_of x1 (4 : Int32)).toNatClampNeg) ^^^ ((1 : Int32) <<< (x2 &&& 31)))) else none else none else none) else none) else (some ((-1 : Int32), σ))) else (some ((-1 : Int32), σ))))
set_option maxRecDepth 100000 in
set_option maxHeartbeats 4000000 in
theorem t_X9_sees (l : Launch) (G : GT) (hG : Dw G) (x1 : Int32) (x2 : Int32) (σ : St) (o : Int32 × St) (hF : f_X9_sees x1 x2 σ = some o) : Ct l G yX9_sees wsX9_sees 2 43 [.ref (gA G 61), .int x1, .int x2] σ (some (.int o.1)) o.2 := by
  refine Met.ofW (cc := cX9_sees) (maxL := 3) (ret := (some .int)) (by decide) rfl ?_
  intro p e s m args below meth c s₁ B hml hv
  obtain ⟨rfl, hP, hK⟩ := hv
  have hx := B.exec
  have hb := B.bytes
  have hr := B.returns
  have hts := atoms_spec (ws := wsX9_sees) B.pre
  have hown : s.vm.findClass RX9 = some m.cls := findClass_of_methodNamed B.named
  have hlocks := B.notSynchronized
  have Z : CallFix p m c cX9_sees 3 s _ wsX9_sees RX9 := ⟨hx, hb, hml, hown, hts⟩
  have hS : va_S (AG G) s.heap s.heap [] := va_S.rf
  have inX9 : ∀ w ∈ u_ws RX9 TX9 21, w ∈ wsX9_sees := by decide +kernel
  have w1 := hts (.fieldLink RX9 9 "AlmanacOfTheYearGoneModel" "s" "[I") (by decide +kernel)
  have hl := lv_entry ([.ref (gA G 61), .int x1, .int x2]) (n := 3) (Nat.le_of_ble_eq_true rfl)
  rw [lg_entry_eq]
  generalize (lg_sl ([.ref (gA G 61), .int x1, .int x2]) ++ List.replicate (3 - (lg_sl ([.ref (gA G 61), .int x1, .int x2])).length) Slot.unset).toArray = ls at hl ⊢
  have hl : lv_has ls 3 [(0, .ref (gA G 61)), (1, .int x1), (2, .int x2)] := hl
  unfold f_X9_sees at hF
  refine lv_aload_n hx hb dX9_sees_0 rfl (lv_at hl 0 rfl) ?_
  refine lv_iload_n hx hb dX9_sees_1 rfl (lv_at hl 1 rfl) ?_
  obtain ⟨q1, h2, hF⟩ := ob_some hF
  refine k_Vv (As := [.int x1]) (rest := []) Z hK hP hS (t_X9_isDeed l G hG x1 σ _ h2) (cwV 1 hts gX9_sees_X9_isDeed rfl rfl rfl (by decide +kernel) ⟨Nat.le_of_ble_eq_true rfl, Nat.le_of_ble_eq_true rfl⟩) (at_5 rfl) rfl rfl hl.1 rfl (Nat.le_of_ble_eq_true rfl) ⟨Nat.zero_le _, Nat.zero_le _⟩ dX9_sees_2 (fun H locs hP hS => ?_)
  refine lv_if_eq (tgt := 15) hx hb dX9_sees_5 (by decide) (fun c3 => ?_) (fun c3 => ?_)
  · have hF := ite_f (b2i_e0 c3) hF
    refine lv_iconst (v := -1) hx hb dX9_sees_15 (by decide) ?_
    exact e_iS hx hb hr hP hS hlocks dX9_sees_16 hF
  · have hF := ite_t (b2i_n0 c3) hF
    refine lv_iload_n hx hb dX9_sees_8 rfl (lv_at hl 2 rfl) ?_
    refine k_Sv (As := [.int x2]) (rest := []) Z hK hP hS (t_X9_isPerson l G hG x2 σ) (va_cwS 1 hts gX9_sees_X9_isPerson rfl rfl rfl (by decide +kernel) ⟨Nat.le_of_ble_eq_true rfl, Nat.le_of_ble_eq_true rfl⟩) rfl hl.1 rfl (Nat.le_of_ble_eq_true rfl) ⟨Nat.zero_le _, Nat.zero_le _⟩ dX9_sees_9 (fun H locs hP hS => ?_)
    refine lv_if_ne (tgt := 17) hx hb dX9_sees_12 (by decide) (fun c4 => ?_) (fun c4 => ?_)
    · have hF := ite_t (b2i_n0 c4) hF
      refine lv_aload_n hx hb dX9_sees_17 rfl (lv_at hl 0 rfl) ?_
      refine va_get (ci := 5) (C := RX9) (T := TX9) (N := 21) (v := .ref (gA G 62)) hx hb hts inX9 hown hK.1 hP 61 (at_5 rfl) rfl 0 (by decide) w1 (fun _ h9 => h9) rfl dX9_sees_18 ?_
      refine lv_iload_n hx hb dX9_sees_21 rfl (lv_at hl 1 rfl) ?_
      refine lv_iconst (v := 3) hx hb dX9_sees_22 (by decide) ?_
      refine k_Sv (As := [.int x1, .int (3 : Int32)]) (rest := [.ref (gA G 62)]) Z hK hP hS (t_X9_of l G hG x1 (3 : Int32) σ) (va_cwS 2 hts gX9_sees_X9_of rfl rfl rfl (by decide +kernel) ⟨Nat.le_of_ble_eq_true rfl, Nat.le_of_ble_eq_true rfl⟩) rfl hl.1 rfl (Nat.le_of_ble_eq_true rfl) ⟨Nat.zero_le _, Nat.zero_le _⟩ dX9_sees_23 (fun H locs hP hS => ?_)
      obtain ⟨b5, hF⟩ := ite_some hF
      refine va_iald hx hb hK.1 hP 62 0 (at_6 (rfl : kd 62 = 6) (rfl : ln 62 = 52)) rfl (inb_in b5) dX9_sees_26 ?_
      refine lv_iload_n hx hb dX9_sees_27 rfl (lv_at hl 2 rfl) ?_
      refine lv_icmp_ne (tgt := 34) hx hb dX9_sees_28 (by decide) (fun c6 => ?_) (fun c6 => ?_)
      · have hF := ite_f c6 hF
        refine lv_aload_n hx hb dX9_sees_34 rfl (lv_at hl 0 rfl) ?_
        refine va_get (ci := 5) (C := RX9) (T := TX9) (N := 21) (v := .ref (gA G 62)) hx hb hts inX9 hown hK.1 hP 61 (at_5 rfl) rfl 0 (by decide) w1 (fun _ h9 => h9) rfl dX9_sees_35 ?_
        refine lv_iload_n hx hb dX9_sees_38 rfl (lv_at hl 1 rfl) ?_
        refine lv_iconst (v := 4) hx hb dX9_sees_39 (by decide) ?_
        refine k_Sv (As := [.int x1, .int (4 : Int32)]) (rest := [.ref (gA G 62)]) Z hK hP hS (t_X9_of l G hG x1 (4 : Int32) σ) (va_cwS 2 hts gX9_sees_X9_of rfl rfl rfl (by decide +kernel) ⟨Nat.le_of_ble_eq_true rfl, Nat.le_of_ble_eq_true rfl⟩) rfl hl.1 rfl (Nat.le_of_ble_eq_true rfl) ⟨Nat.zero_le _, Nat.zero_le _⟩ dX9_sees_40 (fun H locs hP hS => ?_)
        refine lv_dup2_11 hx hb dX9_sees_43 rfl rfl ?_
        obtain ⟨b7, hF⟩ := ite_some hF
        refine va_iald hx hb hK.1 hP 62 0 (at_6 (rfl : kd 62 = 6) (rfl : ln 62 = 52)) rfl (inb_in b7) dX9_sees_44 ?_
        refine lv_iconst (v := 1) hx hb dX9_sees_45 (by decide) ?_
        refine lv_iload_n hx hb dX9_sees_46 rfl (lv_at hl 2 rfl) ?_
        refine lv_ishl hx hb dX9_sees_47 ?_
        refine lv_ixor hx hb dX9_sees_48 ?_
        obtain ⟨b8, hF⟩ := ite_some hF
        refine va_iast hx hb hK.1 hP (Dw.D hG) hS 62 0 (at_6 (rfl : kd 62 = 6) (rfl : ln 62 = 52)) rfl (inb_in b8) dX9_sees_49 (fun H locs hP _ hS => ?_)
        have hP : Pw G (up σ 62 ((f_X9_of x1 (4 : Int32)).toNatClampNeg) ((σ 62 (f_X9_of x1 (4 : Int32)).toNatClampNeg) ^^^ ((1 : Int32) <<< (x2 &&& 31)))) H := Pw.of hP (set_6 (rfl : kd 62 = 6) (rfl : ln 62 = 52))
        refine lv_aload_n hx hb dX9_sees_50 rfl (lv_at hl 0 rfl) ?_
        refine va_get (ci := 5) (C := RX9) (T := TX9) (N := 21) (v := .ref (gA G 62)) hx hb hts inX9 hown hK.1 hP 61 (at_5 rfl) rfl 0 (by decide) w1 (fun _ h9 => h9) rfl dX9_sees_51 ?_
        refine lv_iload_n hx hb dX9_sees_54 rfl (lv_at hl 1 rfl) ?_
        refine lv_iconst (v := 4) hx hb dX9_sees_55 (by decide) ?_
        refine k_Sv (As := [.int x1, .int (4 : Int32)]) (rest := [.ref (gA G 62)]) Z hK hP hS (t_X9_of l G hG x1 (4 : Int32) (up σ 62 ((f_X9_of x1 (4 : Int32)).toNatClampNeg) ((σ 62 (f_X9_of x1 (4 : Int32)).toNatClampNeg) ^^^ ((1 : Int32) <<< (x2 &&& 31))))) (va_cwS 2 hts gX9_sees_X9_of rfl rfl rfl (by decide +kernel) ⟨Nat.le_of_ble_eq_true rfl, Nat.le_of_ble_eq_true rfl⟩) rfl hl.1 rfl (Nat.le_of_ble_eq_true rfl) ⟨Nat.zero_le _, Nat.zero_le _⟩ dX9_sees_56 (fun H locs hP hS => ?_)
        obtain ⟨b9, hF⟩ := ite_some hF
        refine va_iald hx hb hK.1 hP 62 0 (at_6 (rfl : kd 62 = 6) (rfl : ln 62 = 52)) rfl (inb_in b9) dX9_sees_59 ?_
        refine lv_iload_n hx hb dX9_sees_60 rfl (lv_at hl 2 rfl) ?_
        refine lv_ishr hx hb dX9_sees_61 ?_
        refine lv_iconst (v := 1) hx hb dX9_sees_62 (by decide) ?_
        refine lv_iand hx hb dX9_sees_63 ?_
        exact e_iS hx hb hr hP hS hlocks dX9_sees_64 hF
      · have hF := ite_t c6 hF
        refine lv_bipush (v := -3) hx hb dX9_sees_31 (by decide) ?_
        exact e_iS hx hb hr hP hS hlocks dX9_sees_33 hF
    · have hF := ite_f (b2i_e0 c4) hF
      refine lv_iconst (v := -1) hx hb dX9_sees_15 (by decide) ?_
      exact e_iS hx hb hr hP hS hlocks dX9_sees_16 hF
