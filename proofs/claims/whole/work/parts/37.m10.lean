def f_X9_row_55 (x1 : Int32) (x2 : Int32) (x3 : Int32) : Nat → (Int32 → St → Option (Int32 × St))
  | 0 => fun _ _ => none
  | fl + 1 => fun v4 τ => (if (100 : Int32) ≤ v4 then (some ((0 : Int32), τ)) else (if inb (((100 : Int32) * x1) + v4) 800 then (f_X9_row_55 x1 x2 x3 fl) (v4 + (1 : Int32)) (up τ 74 ((((100 : Int32) * x1) + v4).toNatClampNeg) (0 : Int32)) else none))
theorem f_X9_row_55_s {x1 : Int32} {x2 : Int32} {x3 : Int32} (fl : Nat) {v4 : Int32} {τ : St} : f_X9_row_55 x1 x2 x3 (fl + 1) v4 τ = (if (100 : Int32) ≤ v4 then (some ((0 : Int32), τ)) else (if inb (((100 : Int32) * x1) + v4) 800 then (f_X9_row_55 x1 x2 x3 fl) (v4 + (1 : Int32)) (up τ 74 ((((100 : Int32) * x1) + v4).toNatClampNeg) (0 : Int32)) else none)) := rfl
def f_X9_row (x1 : Int32) (x2 : Int32) (x3 : Int32) (σ : St) : Option (Int32 × St) := (if (f_X9_isShelf x1) = true then (if (f_X9_isIn x2 (0 : Int32) (2 : Int32)) = true then (if x3 ≤ (100 : Int32) then (if 0 ≤ x3 then (if inb x1 8 then if inb x1 8 then if inb x1 8 then f_X9_row_55 x1 x2 x3 fu (0 : Int32) (up (up (up σ 69 x1.toNatClampNeg (2 : Int32)) 72 x1.toNatClampNeg x2) 73 x1.toNatClampNeg x3) else none else none else none) else (some ((-14 : Int32), σ))) else (some ((-1 : Int32), σ))) else (some ((-1 : Int32), σ))) else (some ((-1 : Int32), σ)))
set_option maxRecDepth 100000 in
set_option maxHeartbeats 4000000 in
theorem t_X9_row (l : Launch) (G : GT) (hG : Dw G) (x1 : Int32) (x2 : Int32) (x3 : Int32) (σ : St) (o : Int32 × St) (hF : f_X9_row x1 x2 x3 σ = some o) : Ct l G yX9_row wsX9_row 2 42 [.ref (gA G 61), .int x1, .int x2, .int x3] σ (some (.int o.1)) o.2 := by
  refine Met.ofW (cc := cX9_row) (maxL := 5) (ret := (some .int)) (by decide) rfl ?_
  intro p e s m args below meth c s₁ B hml hv
  obtain ⟨rfl, hP, hK⟩ := hv
  have hx := B.exec
  have hb := B.bytes
  have hr := B.returns
  have hts := atoms_spec (ws := wsX9_row) B.pre
  have hown : s.vm.findClass RX9 = some m.cls := findClass_of_methodNamed B.named
  have hlocks := B.notSynchronized
  have Z : CallFix p m c cX9_row 5 s _ wsX9_row RX9 := ⟨hx, hb, hml, hown, hts⟩
  have hS : va_S (AG G) s.heap s.heap [] := va_S.rf
  have inX9 : ∀ w ∈ u_ws RX9 TX9 21, w ∈ wsX9_row := by decide +kernel
  have w1 := hts (.fieldLink RX9 31 "AlmanacOfTheYearGoneModel" "kept" "[I") (by decide +kernel)
  have w2 := hts (.fieldLink RX9 40 "AlmanacOfTheYearGoneModel" "sort" "[I") (by decide +kernel)
  have w3 := hts (.fieldLink RX9 43 "AlmanacOfTheYearGoneModel" "size" "[I") (by decide +kernel)
  have w4 := hts (.fieldLink RX9 46 "AlmanacOfTheYearGoneModel" "element" "[I") (by decide +kernel)
  have hl := lv_entry ([.ref (gA G 61), .int x1, .int x2, .int x3]) (n := 5) (Nat.le_of_ble_eq_true rfl)
  rw [lg_entry_eq]
  generalize (lg_sl ([.ref (gA G 61), .int x1, .int x2, .int x3]) ++ List.replicate (5 - (lg_sl ([.ref (gA G 61), .int x1, .int x2, .int x3])).length) Slot.unset).toArray = ls at hl ⊢
  have hl : lv_has ls 5 [(0, .ref (gA G 61)), (1, .int x1), (2, .int x2), (3, .int x3)] := hl
  unfold f_X9_row at hF
  refine lv_iload_n hx hb dX9_row_0 rfl (lv_at hl 1 rfl) ?_
  refine k_Sv (As := [.int x1]) (rest := []) Z hK hP hS (t_X9_isShelf l G hG x1 σ) (va_cwS 1 hts gX9_row_X9_isShelf rfl rfl rfl (by decide +kernel) ⟨Nat.le_of_ble_eq_true rfl, Nat.le_of_ble_eq_true rfl⟩) rfl hl.1 rfl (Nat.le_of_ble_eq_true rfl) ⟨Nat.zero_le _, Nat.zero_le _⟩ dX9_row_1 (fun H locs hP hS => ?_)
  refine lv_if_eq (tgt := 22) hx hb dX9_row_4 (by decide) (fun c1 => ?_) (fun c1 => ?_)
  · have hF := ite_f (b2i_e0 c1) hF
    refine lv_iconst (v := -1) hx hb dX9_row_22 (by decide) ?_
    exact e_iS hx hb hr hP hS hlocks dX9_row_23 hF
  · have hF := ite_t (b2i_n0 c1) hF
    refine lv_iload_n hx hb dX9_row_7 rfl (lv_at hl 2 rfl) ?_
    refine lv_iconst (v := 0) hx hb dX9_row_8 (by decide) ?_
    refine lv_iconst (v := 2) hx hb dX9_row_9 (by decide) ?_
    refine k_Sv (As := [.int x2, .int (0 : Int32), .int (2 : Int32)]) (rest := []) Z hK hP hS (t_X9_isIn l G hG x2 (0 : Int32) (2 : Int32) σ) (va_cwS 3 hts gX9_row_X9_isIn rfl rfl rfl (by decide +kernel) ⟨Nat.le_of_ble_eq_true rfl, Nat.le_of_ble_eq_true rfl⟩) rfl hl.1 rfl (Nat.le_of_ble_eq_true rfl) ⟨Nat.zero_le _, Nat.zero_le _⟩ dX9_row_10 (fun H locs hP hS => ?_)
    refine lv_if_eq (tgt := 22) hx hb dX9_row_13 (by decide) (fun c2 => ?_) (fun c2 => ?_)
    · have hF := ite_f (b2i_e0 c2) hF
      refine lv_iconst (v := -1) hx hb dX9_row_22 (by decide) ?_
      exact e_iS hx hb hr hP hS hlocks dX9_row_23 hF
    · have hF := ite_t (b2i_n0 c2) hF
      refine lv_iload_n hx hb dX9_row_16 rfl (lv_at hl 3 rfl) ?_
      refine lv_bipush (v := 100) hx hb dX9_row_17 (by decide) ?_
      refine lv_icmp_le (tgt := 24) hx hb dX9_row_19 (by decide) (fun c3 => ?_) (fun c3 => ?_)
      · have hF := ite_t c3 hF
        refine lv_iload_n hx hb dX9_row_24 rfl (lv_at hl 3 rfl) ?_
        refine lv_if_ge (tgt := 31) hx hb dX9_row_25 (by decide) (fun c4 => ?_) (fun c4 => ?_)
        · have hF := ite_t c4 hF
          refine lv_aload_n hx hb dX9_row_31 rfl (lv_at hl 0 rfl) ?_
          refine va_get (ci := 5) (C := RX9) (T := TX9) (N := 21) (v := .ref (gA G 69)) hx hb hts inX9 hown hK.1 hP 61 (at_5 rfl) rfl 14 (by decide) w1 (fun _ h9 => h9) rfl dX9_row_32 ?_
          refine lv_iload_n hx hb dX9_row_35 rfl (lv_at hl 1 rfl) ?_
          refine lv_iconst (v := 2) hx hb dX9_row_36 (by decide) ?_
          obtain ⟨b5, hF⟩ := ite_some hF
          refine va_iast hx hb hK.1 hP (Dw.D hG) hS 69 0 (at_6 (rfl : kd 69 = 6) (rfl : ln 69 = 8)) rfl (inb_in b5) dX9_row_37 (fun H locs hP _ hS => ?_)
          have hP : Pw G (up σ 69 x1.toNatClampNeg (2 : Int32)) H := Pw.of hP (set_6 (rfl : kd 69 = 6) (rfl : ln 69 = 8))
          refine lv_aload_n hx hb dX9_row_38 rfl (lv_at hl 0 rfl) ?_
          refine va_get (ci := 5) (C := RX9) (T := TX9) (N := 21) (v := .ref (gA G 72)) hx hb hts inX9 hown hK.1 hP 61 (at_5 rfl) rfl 17 (by decide) w2 (fun _ h9 => h9) rfl dX9_row_39 ?_
          refine lv_iload_n hx hb dX9_row_42 rfl (lv_at hl 1 rfl) ?_
          refine lv_iload_n hx hb dX9_row_43 rfl (lv_at hl 2 rfl) ?_
          obtain ⟨b6, hF⟩ := ite_some hF
          refine va_iast hx hb hK.1 hP (Dw.D hG) hS 72 0 (at_6 (rfl : kd 72 = 6) (rfl : ln 72 = 8)) rfl (inb_in b6) dX9_row_44 (fun H locs hP _ hS => ?_)
          have hP : Pw G (up (up σ 69 x1.toNatClampNeg (2 : Int32)) 72 x1.toNatClampNeg x2) H := Pw.of hP (set_6 (rfl : kd 72 = 6) (rfl : ln 72 = 8))
          refine lv_aload_n hx hb dX9_row_45 rfl (lv_at hl 0 rfl) ?_
          refine va_get (ci := 5) (C := RX9) (T := TX9) (N := 21) (v := .ref (gA G 73)) hx hb hts inX9 hown hK.1 hP 61 (at_5 rfl) rfl 18 (by decide) w3 (fun _ h9 => h9) rfl dX9_row_46 ?_
          refine lv_iload_n hx hb dX9_row_49 rfl (lv_at hl 1 rfl) ?_
          refine lv_iload_n hx hb dX9_row_50 rfl (lv_at hl 3 rfl) ?_
          obtain ⟨b7, hF⟩ := ite_some hF
          refine va_iast hx hb hK.1 hP (Dw.D hG) hS 73 0 (at_6 (rfl : kd 73 = 6) (rfl : ln 73 = 8)) rfl (inb_in b7) dX9_row_51 (fun H locs hP _ hS => ?_)
          have hP : Pw G (up (up (up σ 69 x1.toNatClampNeg (2 : Int32)) 72 x1.toNatClampNeg x2) 73 x1.toNatClampNeg x3) H := Pw.of hP (set_6 (rfl : kd 73 = 6) (rfl : ln 73 = 8))
          refine lv_iconst (v := 0) hx hb dX9_row_52 (by decide) ?_
          have J55 : ∀ (fl : Nat) (v4 : Int32) (τ : St) (H : Heap) (locs : List Loc) (hP : Pw G τ H) (hS : va_S (AG G) s.heap H locs) (ls : Array Slot) (hl : lv_has ls 5 [(0, .ref (gA G 61)), (1, .int x1), (2, .int x2), (3, .int x3), (4, .int v4)]) (hF : f_X9_row_55 x1 x2 x3 fl v4 τ = some o), W p l e (headSpec wsX9_row ({ frames := 2, cells := 0, slots := 0, locals := 42 })).room s m ([.ref (gA G 61), .int x1, .int x2, .int x3] : List Value).toArray below meth c H locs 0 0 (MQ below (qR G (some (.int o.1)) o.2) ([.ref (gA G 61), .int x1, .int x2, .int x3] : List Value).toArray s 0 0 (AG G)) (F0 m 55 ls []) := by
            intro fl55
            induction fl55 with
            | zero => intro v4 τ H locs hP hS ls hl hF; cases hF
            | succ fl55 ih55 =>
              intro v4 τ H locs hP hS ls hl hF
              rw [f_X9_row_55_s] at hF
              refine lv_iload hx hb dX9_row_55 (lv_at hl 4 rfl) ?_
              refine lv_bipush (v := 100) hx hb dX9_row_57 (by decide) ?_
              refine lv_icmp_ge (tgt := 81) hx hb dX9_row_59 (by decide) (fun c8 => ?_) (fun c8 => ?_)
              · have hF := ite_t c8 hF
                refine lv_iconst (v := 0) hx hb dX9_row_81 (by decide) ?_
                exact e_iS hx hb hr hP hS hlocks dX9_row_82 hF
              · have hF := ite_f c8 hF
                refine lv_aload_n hx hb dX9_row_62 rfl (lv_at hl 0 rfl) ?_
                refine va_get (ci := 5) (C := RX9) (T := TX9) (N := 21) (v := .ref (gA G 74)) hx hb hts inX9 hown hK.1 hP 61 (at_5 rfl) rfl 19 (by decide) w4 (fun _ h9 => h9) rfl dX9_row_63 ?_
                refine lv_bipush (v := 100) hx hb dX9_row_66 (by decide) ?_
                refine lv_iload_n hx hb dX9_row_68 rfl (lv_at hl 1 rfl) ?_
                refine lv_imul hx hb dX9_row_69 ?_
                refine lv_iload hx hb dX9_row_70 (lv_at hl 4 rfl) ?_
                refine lv_iadd hx hb dX9_row_72 ?_
                refine lv_iconst (v := 0) hx hb dX9_row_73 (by decide) ?_
                obtain ⟨b9, hF⟩ := ite_some hF
                refine va_iast hx hb hK.1 hP (Dw.D hG) hS 74 0 (at_6 (rfl : kd 74 = 6) (rfl : ln 74 = 800)) rfl (inb_in b9) dX9_row_74 (fun H locs hP _ hS => ?_)
                have hP : Pw G (up τ 74 ((((100 : Int32) * x1) + v4).toNatClampNeg) (0 : Int32)) H := Pw.of hP (set_6 (rfl : kd 74 = 6) (rfl : ln 74 = 800))
                refine lv_iinc (v := (v4 + (1 : Int32))) (lv' := [(4, .int (v4 + (1 : Int32))), (0, .ref (gA G 61)), (1, .int x1), (2, .int x2), (3, .int x3)]) hx hb dX9_row_75 hl (k := 4) rfl rfl (by decide) rfl (fun ls hl => ?_)
                refine lv_goto (tgt := 55) hx hb dX9_row_78 (by decide) ?_
                exact ih55 (v4 + (1 : Int32)) (up τ 74 ((((100 : Int32) * x1) + v4).toNatClampNeg) (0 : Int32)) _ _ hP hS ls (lv_sub hl [1, 2, 3, 4, 0] rfl) hF
          refine lv_istore (lv' := [(4, .int (0 : Int32)), (0, .ref (gA G 61)), (1, .int x1), (2, .int x2), (3, .int x3)]) hx hb dX9_row_53 hl (by decide) rfl (fun ls hl => ?_)
          exact J55 fu (0 : Int32) (up (up (up σ 69 x1.toNatClampNeg (2 : Int32)) 72 x1.toNatClampNeg x2) 73 x1.toNatClampNeg x3) _ _ hP hS ls (lv_sub hl [1, 2, 3, 4, 0] rfl) hF
        · have hF := ite_f c4 hF
          refine lv_bipush (v := -14) hx hb dX9_row_28 (by decide) ?_
          exact e_iS hx hb hr hP hS hlocks dX9_row_30 hF
      · have hF := ite_f c3 hF
        refine lv_iconst (v := -1) hx hb dX9_row_22 (by decide) ?_
        exact e_iS hx hb hr hP hS hlocks dX9_row_23 hF
def f_X9_put_75 (x1 : Int32) (x2 : Int32) (x3 : Int32) (y0 : Nat) (z1 : Int32) (z2 : Int32) (τ : St) : Option (Int32 × St) := (if inb z1 800 then some ((0 : Int32), up τ y0 z1.toNatClampNeg z2) else none)
theorem f_X9_put_75_e {x1 : Int32} {x2 : Int32} {x3 : Int32} {y0 : Nat} {z1 : Int32} {z2 : Int32} {τ : St} : f_X9_put_75 x1 x2 x3 y0 z1 z2 τ = (if inb z1 800 then some ((0 : Int32), up τ y0 z1.toNatClampNeg z2) else none) := rfl
def f_X9_put (x1 : Int32) (x2 : Int32) (x3 : Int32) (σ : St) : Option (Int32 × St) := (ob (f_X9_wrongRow x1 (-1 : Int32) σ) (fun q1 => if q1 = 0 then (if inb x1 8 then if (f_X9_isIn x2 (0 : Int32) ((σ 73 x1.toNatClampNeg) - (1 : Int32))) = true then (if inb x1 8 then if (σ 72 x1.toNatClampNeg) = 0 then (f_X9_put_75 x1 x2 x3 74 (((100 : Int32) * x1) + x2) x3.toInt8.toInt32 σ) else (if inb x1 8 then if (σ 72 x1.toNatClampNeg) = (1 : Int32) then (f_X9_put_75 x1 x2 x3 74 (((100 : Int32) * x1) + x2) x3.toInt16.toInt32 σ) else (f_X9_put_75 x1 x2 x3 74 (((100 : Int32) * x1) + x2) x3 σ) else none) else none) else (some ((-13 : Int32), σ)) else none) else (some (q1, σ))))
set_option maxRecDepth 100000 in
set_option maxHeartbeats 4000000 in
theorem t_X9_put (l : Launch) (G : GT) (hG : Dw G) (x1 : Int32) (x2 : Int32) (x3 : Int32) (σ : St) (o : Int32 × St) (hF : f_X9_put x1 x2 x3 σ = some o) : Ct l G yX9_put wsX9_put 3 64 [.ref (gA G 61), .int x1, .int x2, .int x3] σ (some (.int o.1)) o.2 := by
  refine Met.ofW (cc := cX9_put) (maxL := 5) (ret := (some .int)) (by decide) rfl ?_
  intro p e s m args below meth c s₁ B hml hv
  obtain ⟨rfl, hP, hK⟩ := hv
  have hx := B.exec
  have hb := B.bytes
  have hr := B.returns
  have hts := atoms_spec (ws := wsX9_put) B.pre
  have hown : s.vm.findClass RX9 = some m.cls := findClass_of_methodNamed B.named
  have hlocks := B.notSynchronized
  have Z : CallFix p m c cX9_put 5 s _ wsX9_put RX9 := ⟨hx, hb, hml, hown, hts⟩
  have hS : va_S (AG G) s.heap s.heap [] := va_S.rf
  have inX9 : ∀ w ∈ u_ws RX9 TX9 21, w ∈ wsX9_put := by decide +kernel
  have w1 := hts (.fieldLink RX9 43 "AlmanacOfTheYearGoneModel" "size" "[I") (by decide +kernel)
  have w2 := hts (.fieldLink RX9 46 "AlmanacOfTheYearGoneModel" "element" "[I") (by decide +kernel)
  have w3 := hts (.fieldLink RX9 40 "AlmanacOfTheYearGoneModel" "sort" "[I") (by decide +kernel)
  have hl := lv_entry ([.ref (gA G 61), .int x1, .int x2, .int x3]) (n := 5) (Nat.le_of_ble_eq_true rfl)
  rw [lg_entry_eq]
  generalize (lg_sl ([.ref (gA G 61), .int x1, .int x2, .int x3]) ++ List.replicate (5 - (lg_sl ([.ref (gA G 61), .int x1, .int x2, .int x3])).length) Slot.unset).toArray = ls at hl ⊢
  have hl : lv_has ls 5 [(0, .ref (gA G 61)), (1, .int x1), (2, .int x2), (3, .int x3)] := hl
  unfold f_X9_put at hF
  refine lv_aload_n hx hb dX9_put_0 rfl (lv_at hl 0 rfl) ?_
  refine lv_iload_n hx hb dX9_put_1 rfl (lv_at hl 1 rfl) ?_
  refine lv_iconst (v := -1) hx hb dX9_put_2 (by decide) ?_
  obtain ⟨q1, h2, hF⟩ := ob_some hF
  refine k_Vv (As := [.int x1, .int (-1 : Int32)]) (rest := []) Z hK hP hS (t_X9_wrongRow l G hG x1 (-1 : Int32) σ _ h2) (cwV 2 hts gX9_put_X9_wrongRow rfl rfl rfl (by decide +kernel) ⟨Nat.le_of_ble_eq_true rfl, Nat.le_of_ble_eq_true rfl⟩) (at_5 rfl) rfl rfl hl.1 rfl (Nat.le_of_ble_eq_true rfl) ⟨Nat.zero_le _, Nat.zero_le _⟩ dX9_put_3 (fun H locs hP hS => ?_)
  refine lv_istore (lv' := [(4, .int q1), (0, .ref (gA G 61)), (1, .int x1), (2, .int x2), (3, .int x3)]) hx hb dX9_put_6 hl (by decide) rfl (fun ls hl => ?_)
  refine lv_iload hx hb dX9_put_8 (lv_at hl 0 rfl) ?_
  refine lv_if_eq (tgt := 16) hx hb dX9_put_10 (by decide) (fun c3 => ?_) (fun c3 => ?_)
  · have hF := ite_t c3 hF
    refine lv_iload_n hx hb dX9_put_16 rfl (lv_at hl 3 rfl) ?_
    refine lv_iconst (v := 0) hx hb dX9_put_17 (by decide) ?_
    refine lv_aload_n hx hb dX9_put_18 rfl (lv_at hl 1 rfl) ?_
    refine va_get (ci := 5) (C := RX9) (T := TX9) (N := 21) (v := .ref (gA G 73)) hx hb hts inX9 hown hK.1 hP 61 (at_5 rfl) rfl 18 (by decide) w1 (fun _ h9 => h9) rfl dX9_put_19 ?_
    refine lv_iload_n hx hb dX9_put_22 rfl (lv_at hl 2 rfl) ?_
    obtain ⟨b4, hF⟩ := ite_some hF
    refine va_iald hx hb hK.1 hP 73 0 (at_6 (rfl : kd 73 = 6) (rfl : ln 73 = 8)) rfl (inb_in b4) dX9_put_23 ?_
    refine lv_iconst (v := 1) hx hb dX9_put_24 (by decide) ?_
    refine lv_isub hx hb dX9_put_25 ?_
    refine k_Sv (As := [.int x2, .int (0 : Int32), .int ((σ 73 x1.toNatClampNeg) - (1 : Int32))]) (rest := []) Z hK hP hS (t_X9_isIn l G hG x2 (0 : Int32) ((σ 73 x1.toNatClampNeg) - (1 : Int32)) σ) (va_cwS 3 hts gX9_put_X9_isIn rfl rfl rfl (by decide +kernel) ⟨Nat.le_of_ble_eq_true rfl, Nat.le_of_ble_eq_true rfl⟩) rfl hl.1 rfl (Nat.le_of_ble_eq_true rfl) ⟨Nat.zero_le _, Nat.zero_le _⟩ dX9_put_26 (fun H locs hP hS => ?_)
    refine lv_if_ne (tgt := 35) hx hb dX9_put_29 (by decide) (fun c5 => ?_) (fun c5 => ?_)
    · have hF := ite_t (b2i_n0 c5) hF
      refine lv_aload_n hx hb dX9_put_35 rfl (lv_at hl 1 rfl) ?_
      refine va_get (ci := 5) (C := RX9) (T := TX9) (N := 21) (v := .ref (gA G 74)) hx hb hts inX9 hown hK.1 hP 61 (at_5 rfl) rfl 19 (by decide) w2 (fun _ h9 => h9) rfl dX9_put_36 ?_
      refine lv_bipush (v := 100) hx hb dX9_put_39 (by decide) ?_
      refine lv_iload_n hx hb dX9_put_41 rfl (lv_at hl 2 rfl) ?_
      refine lv_imul hx hb dX9_put_42 ?_
      refine lv_iload_n hx hb dX9_put_43 rfl (lv_at hl 3 rfl) ?_
      refine lv_iadd hx hb dX9_put_44 ?_
      refine lv_aload_n hx hb dX9_put_45 rfl (lv_at hl 1 rfl) ?_
      refine va_get (ci := 5) (C := RX9) (T := TX9) (N := 21) (v := .ref (gA G 72)) hx hb hts inX9 hown hK.1 hP 61 (at_5 rfl) rfl 17 (by decide) w3 (fun _ h9 => h9) rfl dX9_put_46 ?_
      refine lv_iload_n hx hb dX9_put_49 rfl (lv_at hl 2 rfl) ?_
      obtain ⟨b6, hF⟩ := ite_some hF
      refine va_iald hx hb hK.1 hP 72 0 (at_6 (rfl : kd 72 = 6) (rfl : ln 72 = 8)) rfl (inb_in b6) dX9_put_50 ?_
      have J75 : ∀ (y0 : Nat) (z1 : Int32) (z2 : Int32) (τ : St) (hy0 : kd y0 = 6 ∧ ln y0 = 800) (H : Heap) (locs : List Loc) (hP : Pw G τ H) (hS : va_S (AG G) s.heap H locs) (ls : Array Slot) (hl : lv_has ls 5 [(0, .ref (gA G 61)), (1, .int x1), (2, .int x2), (3, .int x3)]) (hF : f_X9_put_75 x1 x2 x3 y0 z1 z2 τ = some o), W p l e (headSpec wsX9_put ({ frames := 3, cells := 0, slots := 0, locals := 64 })).room s m ([.ref (gA G 61), .int x1, .int x2, .int x3] : List Value).toArray below meth c H locs 0 0 (MQ below (qR G (some (.int o.1)) o.2) ([.ref (gA G 61), .int x1, .int x2, .int x3] : List Value).toArray s 0 0 (AG G)) (F0 m 75 ls [.int z2, .int z1, .ref (gA G y0)]) := by
        intro y0 z1 z2 τ hy0 H locs hP hS ls hl hF
        rw [f_X9_put_75_e] at hF
        obtain ⟨b7, hF⟩ := ite_some hF
        refine va_iast hx hb hK.1 hP (Dw.D hG) hS y0 0 (at_6 hy0.1 hy0.2) rfl (inb_in b7) dX9_put_75 (fun H locs hP _ hS => ?_)
        have hP : Pw G (up τ y0 z1.toNatClampNeg z2) H := Pw.of hP (set_6 hy0.1 hy0.2)
        refine lv_iconst (v := 0) hx hb dX9_put_76 (by decide) ?_
        exact e_iS hx hb hr hP hS hlocks dX9_put_77 hF
      refine lv_if_ne (tgt := 59) hx hb dX9_put_51 (by decide) (fun c8 => ?_) (fun c8 => ?_)
      · have hF := ite_f c8 hF
        refine lv_aload_n hx hb dX9_put_59 rfl (lv_at hl 1 rfl) ?_
        refine va_get (ci := 5) (C := RX9) (T := TX9) (N := 21) (v := .ref (gA G 72)) hx hb hts inX9 hown hK.1 hP 61 (at_5 rfl) rfl 17 (by decide) w3 (fun _ h9 => h9) rfl dX9_put_60 ?_
        refine lv_iload_n hx hb dX9_put_63 rfl (lv_at hl 2 rfl) ?_
        obtain ⟨b9, hF⟩ := ite_some hF
        refine va_iald hx hb hK.1 hP 72 0 (at_6 (rfl : kd 72 = 6) (rfl : ln 72 = 8)) rfl (inb_in b9) dX9_put_64 ?_
        refine lv_iconst (v := 1) hx hb dX9_put_65 (by decide) ?_
        refine lv_icmp_ne (tgt := 74) hx hb dX9_put_66 (by decide) (fun c10 => ?_) (fun c10 => ?_)
        · have hF := ite_f c10 hF
          refine lv_iload_n hx hb dX9_put_74 rfl (lv_at hl 4 rfl) ?_
          exact J75 74 (((100 : Int32) * x1) + x2) x3 σ ⟨(rfl : kd 74 = 6), (rfl : ln 74 = 800)⟩ _ _ hP hS ls (lv_sub hl [1, 2, 3, 4] rfl) hF
        · have hF := ite_t c10 hF
          refine lv_iload_n hx hb dX9_put_69 rfl (lv_at hl 4 rfl) ?_
          refine lv_i2s hx hb dX9_put_70 rfl ?_
          refine lv_goto (tgt := 75) hx hb dX9_put_71 (by decide) ?_
          exact J75 74 (((100 : Int32) * x1) + x2) x3.toInt16.toInt32 σ ⟨(rfl : kd 74 = 6), (rfl : ln 74 = 800)⟩ _ _ hP hS ls (lv_sub hl [1, 2, 3, 4] rfl) hF
      · have hF := ite_t c8 hF
        refine lv_iload_n hx hb dX9_put_54 rfl (lv_at hl 4 rfl) ?_
        refine lv_i2b hx hb dX9_put_55 rfl ?_
        refine lv_goto (tgt := 75) hx hb dX9_put_56 (by decide) ?_
        exact J75 74 (((100 : Int32) * x1) + x2) x3.toInt8.toInt32 σ ⟨(rfl : kd 74 = 6), (rfl : ln 74 = 800)⟩ _ _ hP hS ls (lv_sub hl [1, 2, 3, 4] rfl) hF
    · have hF := ite_f (b2i_e0 c5) hF
      refine lv_bipush (v := -13) hx hb dX9_put_32 (by decide) ?_
      exact e_iS hx hb hr hP hS hlocks dX9_put_34 hF
  · have hF := ite_f c3 hF
    refine lv_iload hx hb dX9_put_13 (lv_at hl 0 rfl) ?_
    exact e_iS hx hb hr hP hS hlocks dX9_put_15 hF
def f_X9_element_43 (x1 : Int32) (x2 : Int32) (y0 : Nat) (z1 : Int32) (τ : St) : Option (Int64 × St) := (if ((up τ y0 20 z1) 61 20) = 0 then (if inb (((100 : Int32) * x1) + x2) 800 then some (((up τ y0 20 z1) 74 (((100 : Int32) * x1) + x2).toNatClampNeg).toInt64, up τ y0 20 z1) else none) else (some ((0 : Int64), up τ y0 20 z1)))
theorem f_X9_element_43_e {x1 : Int32} {x2 : Int32} {y0 : Nat} {z1 : Int32} {τ : St} : f_X9_element_43 x1 x2 y0 z1 τ = (if ((up τ y0 20 z1) 61 20) = 0 then (if inb (((100 : Int32) * x1) + x2) 800 then some (((up τ y0 20 z1) 74 (((100 : Int32) * x1) + x2).toNatClampNeg).toInt64, up τ y0 20 z1) else none) else (some ((0 : Int64), up τ y0 20 z1))) := rfl
def f_X9_element_38 (x1 : Int32) (x2 : Int32) (y0 : Nat) (τ : St) : Option (Int64 × St) := (f_X9_element_43 x1 x2 y0 (2 : Int32) τ)
theorem f_X9_element_38_e {x1 : Int32} {x2 : Int32} {y0 : Nat} {τ : St} : f_X9_element_38 x1 x2 y0 τ = (f_X9_element_43 x1 x2 y0 (2 : Int32) τ) := rfl
def f_X9_element (x1 : Int32) (x2 : Int32) (σ : St) : Option (Int64 × St) := (if (f_X9_isShelf x1) = true then (if inb x1 8 then if (σ 69 x1.toNatClampNeg) = (2 : Int32) then (if inb x1 8 then if (f_X9_isIn x2 (0 : Int32) ((σ 73 x1.toNatClampNeg) - (1 : Int32))) = true then (f_X9_element_43 x1 x2 61 (0 : Int32) σ) else f_X9_element_38 x1 x2 61 σ else none) else f_X9_element_38 x1 x2 61 σ else none) else (f_X9_element_43 x1 x2 61 (1 : Int32) σ))
set_option maxRecDepth 100000 in
set_option maxHeartbeats 4000000 in
theorem t_X9_element (l : Launch) (G : GT) (hG : Dw G) (x1 : Int32) (x2 : Int32) (σ : St) (o : Int64 × St) (hF : f_X9_element x1 x2 σ = some o) : Ct l G yX9_element wsX9_element 2 42 [.ref (gA G 61), .int x1, .int x2] σ (some (.long o.1)) o.2 := by
  refine Met.ofW (cc := cX9_element) (maxL := 3) (ret := (some .long)) (by decide) rfl ?_
  intro p e s m args below meth c s₁ B hml hv
  obtain ⟨rfl, hP, hK⟩ := hv
  have hx := B.exec
  have hb := B.bytes
  have hr := B.returns
  have hts := atoms_spec (ws := wsX9_element) B.pre
  have hown : s.vm.findClass RX9 = some m.cls := findClass_of_methodNamed B.named
  have hlocks := B.notSynchronized
  have Z : CallFix p m c cX9_element 3 s _ wsX9_element RX9 := ⟨hx, hb, hml, hown, hts⟩
  have hS : va_S (AG G) s.heap s.heap [] := va_S.rf
  have inX9 : ∀ w ∈ u_ws RX9 TX9 21, w ∈ wsX9_element := by decide +kernel
  have w1 := hts (.fieldLink RX9 220 "AlmanacOfTheYearGoneModel" "thrown" "I") (by decide +kernel)
  have w2 := hts (.fieldLink RX9 46 "AlmanacOfTheYearGoneModel" "element" "[I") (by decide +kernel)
  have w3 := hts (.fieldLink RX9 31 "AlmanacOfTheYearGoneModel" "kept" "[I") (by decide +kernel)
  have w4 := hts (.fieldLink RX9 43 "AlmanacOfTheYearGoneModel" "size" "[I") (by decide +kernel)
  have hl := lv_entry ([.ref (gA G 61), .int x1, .int x2]) (n := 3) (Nat.le_of_ble_eq_true rfl)
  rw [lg_entry_eq]
  generalize (lg_sl ([.ref (gA G 61), .int x1, .int x2]) ++ List.replicate (3 - (lg_sl ([.ref (gA G 61), .int x1, .int x2])).length) Slot.unset).toArray = ls at hl ⊢
  have hl : lv_has ls 3 [(0, .ref (gA G 61)), (1, .int x1), (2, .int x2)] := hl
  unfold f_X9_element at hF
  refine lv_aload_n hx hb dX9_element_0 rfl (lv_at hl 0 rfl) ?_
  refine lv_iload_n hx hb dX9_element_1 rfl (lv_at hl 1 rfl) ?_
  refine k_Sv (As := [.int x1]) (rest := [.ref (gA G 61)]) Z hK hP hS (t_X9_isShelf l G hG x1 σ) (va_cwS 1 hts gX9_element_X9_isShelf rfl rfl rfl (by decide +kernel) ⟨Nat.le_of_ble_eq_true rfl, Nat.le_of_ble_eq_true rfl⟩) rfl hl.1 rfl (Nat.le_of_ble_eq_true rfl) ⟨Nat.zero_le _, Nat.zero_le _⟩ dX9_element_2 (fun H locs hP hS => ?_)
  have J43 : ∀ (y0 : Nat) (z1 : Int32) (τ : St) (hy0 : kd y0 = 5) (H : Heap) (locs : List Loc) (hP : Pw G τ H) (hS : va_S (AG G) s.heap H locs) (ls : Array Slot) (hl : lv_has ls 3 [(0, .ref (gA G 61)), (1, .int x1), (2, .int x2)]) (hF : f_X9_element_43 x1 x2 y0 z1 τ = some o), W p l e (headSpec wsX9_element ({ frames := 2, cells := 0, slots := 0, locals := 42 })).room s m ([.ref (gA G 61), .int x1, .int x2] : List Value).toArray below meth c H locs 0 0 (MQ below (qR G (some (.long o.1)) o.2) ([.ref (gA G 61), .int x1, .int x2] : List Value).toArray s 0 0 (AG G)) (F0 m 43 ls [.int z1, .ref (gA G y0)]) := by
    intro y0 z1 τ hy0 H locs hP hS ls hl hF
    rw [f_X9_element_43_e] at hF
    refine va_put (ci := 5) (C := RX9) (T := TX9) (N := 21) (v := .int z1) (ty := .int) hx hb hts inX9 tyX9 tyX9_ok nmX9 hown hK.1 hP (Dw.D hG) hS y0 (at_5 hy0) rfl 20 (by decide) w1 (fun _ h9 => h9) rfl (by decide +kernel) rfl rfl (Nat.le_of_ble_eq_true rfl) dX9_element_43 (fun H locs hP _ hS => ?_)
    have hP := Pw.of hP (set_5_20 hy0)
    refine lv_aload_n hx hb dX9_element_46 rfl (lv_at hl 0 rfl) ?_
    refine va_get (ci := 5) (C := RX9) (T := TX9) (N := 21) (v := .int ((up τ y0 20 z1) 61 20)) hx hb hts inX9 hown hK.1 hP 61 (at_5 rfl) rfl 20 (by decide) w1 (fun _ h9 => h9) rfl dX9_element_47 ?_
    refine lv_if_ne (tgt := 68) hx hb dX9_element_50 (by decide) (fun c1 => ?_) (fun c1 => ?_)
    · have hF := ite_f c1 hF
      refine lv_lconst (v := 0) hx hb dX9_element_68 (by decide) ?_
      exact e_lS hx hb hr hP hS hlocks dX9_element_69 hF
    · have hF := ite_t c1 hF
      refine lv_aload_n hx hb dX9_element_53 rfl (lv_at hl 0 rfl) ?_
      refine va_get (ci := 5) (C := RX9) (T := TX9) (N := 21) (v := .ref (gA G 74)) hx hb hts inX9 hown hK.1 hP 61 (at_5 rfl) rfl 19 (by decide) w2 (fun _ h9 => h9) rfl dX9_element_54 ?_
      refine lv_bipush (v := 100) hx hb dX9_element_57 (by decide) ?_
      refine lv_iload_n hx hb dX9_element_59 rfl (lv_at hl 1 rfl) ?_
      refine lv_imul hx hb dX9_element_60 ?_
      refine lv_iload_n hx hb dX9_element_61 rfl (lv_at hl 2 rfl) ?_
      refine lv_iadd hx hb dX9_element_62 ?_
      obtain ⟨b2, hF⟩ := ite_some hF
      refine va_iald hx hb hK.1 hP 74 0 (at_6 (rfl : kd 74 = 6) (rfl : ln 74 = 800)) rfl (inb_in b2) dX9_element_63 ?_
      refine lv_i2l hx hb dX9_element_64 rfl ?_
      refine lv_goto (tgt := 69) hx hb dX9_element_65 (by decide) ?_
      exact e_lS hx hb hr hP hS hlocks dX9_element_69 hF
  refine lv_if_ne (tgt := 12) hx hb dX9_element_5 (by decide) (fun c3 => ?_) (fun c3 => ?_)
  · have hF := ite_t (b2i_n0 c3) hF
    refine lv_aload_n hx hb dX9_element_12 rfl (lv_at hl 0 rfl) ?_
    refine va_get (ci := 5) (C := RX9) (T := TX9) (N := 21) (v := .ref (gA G 69)) hx hb hts inX9 hown hK.1 hP 61 (at_5 rfl) rfl 14 (by decide) w3 (fun _ h9 => h9) rfl dX9_element_13 ?_
    refine lv_iload_n hx hb dX9_element_16 rfl (lv_at hl 1 rfl) ?_
    obtain ⟨b4, hF⟩ := ite_some hF
    refine va_iald hx hb hK.1 hP 69 0 (at_6 (rfl : kd 69 = 6) (rfl : ln 69 = 8)) rfl (inb_in b4) dX9_element_17 ?_
    refine lv_iconst (v := 2) hx hb dX9_element_18 (by decide) ?_
    have J38 : ∀ (y0 : Nat) (τ : St) (hy0 : kd y0 = 5) (H : Heap) (locs : List Loc) (hP : Pw G τ H) (hS : va_S (AG G) s.heap H locs) (ls : Array Slot) (hl : lv_has ls 3 [(0, .ref (gA G 61)), (1, .int x1), (2, .int x2)]) (hF : f_X9_element_38 x1 x2 y0 τ = some o), W p l e (headSpec wsX9_element ({ frames := 2, cells := 0, slots := 0, locals := 42 })).room s m ([.ref (gA G 61), .int x1, .int x2] : List Value).toArray below meth c H locs 0 0 (MQ below (qR G (some (.long o.1)) o.2) ([.ref (gA G 61), .int x1, .int x2] : List Value).toArray s 0 0 (AG G)) (F0 m 38 ls [.ref (gA G y0)]) := by
      intro y0 τ hy0 H locs hP hS ls hl hF
      rw [f_X9_element_38_e] at hF
      refine lv_iconst (v := 2) hx hb dX9_element_38 (by decide) ?_
      refine lv_goto (tgt := 43) hx hb dX9_element_39 (by decide) ?_
      exact J43 y0 (2 : Int32) τ (hy0) _ _ hP hS ls (lv_sub hl [0, 1, 2] rfl) hF
    refine lv_icmp_ne (tgt := 38) hx hb dX9_element_19 (by decide) (fun c5 => ?_) (fun c5 => ?_)
    · have hF := ite_f c5 hF
      exact J38 61 σ (rfl) _ _ hP hS ls (lv_sub hl [0, 1, 2] rfl) hF
    · have hF := ite_t c5 hF
      refine lv_iload_n hx hb dX9_element_22 rfl (lv_at hl 2 rfl) ?_
      refine lv_iconst (v := 0) hx hb dX9_element_23 (by decide) ?_
      refine lv_aload_n hx hb dX9_element_24 rfl (lv_at hl 0 rfl) ?_
      refine va_get (ci := 5) (C := RX9) (T := TX9) (N := 21) (v := .ref (gA G 73)) hx hb hts inX9 hown hK.1 hP 61 (at_5 rfl) rfl 18 (by decide) w4 (fun _ h9 => h9) rfl dX9_element_25 ?_
      refine lv_iload_n hx hb dX9_element_28 rfl (lv_at hl 1 rfl) ?_
      obtain ⟨b6, hF⟩ := ite_some hF
      refine va_iald hx hb hK.1 hP 73 0 (at_6 (rfl : kd 73 = 6) (rfl : ln 73 = 8)) rfl (inb_in b6) dX9_element_29 ?_
      refine lv_iconst (v := 1) hx hb dX9_element_30 (by decide) ?_
      refine lv_isub hx hb dX9_element_31 ?_
      refine k_Sv (As := [.int x2, .int (0 : Int32), .int ((σ 73 x1.toNatClampNeg) - (1 : Int32))]) (rest := [.ref (gA G 61)]) Z hK hP hS (t_X9_isIn l G hG x2 (0 : Int32) ((σ 73 x1.toNatClampNeg) - (1 : Int32)) σ) (va_cwS 3 hts gX9_element_X9_isIn rfl rfl rfl (by decide +kernel) ⟨Nat.le_of_ble_eq_true rfl, Nat.le_of_ble_eq_true rfl⟩) rfl hl.1 rfl (Nat.le_of_ble_eq_true rfl) ⟨Nat.zero_le _, Nat.zero_le _⟩ dX9_element_32 (fun H locs hP hS => ?_)
      refine lv_if_ne (tgt := 42) hx hb dX9_element_35 (by decide) (fun c7 => ?_) (fun c7 => ?_)
      · have hF := ite_t (b2i_n0 c7) hF
        refine lv_iconst (v := 0) hx hb dX9_element_42 (by decide) ?_
        exact J43 61 (0 : Int32) σ (rfl) _ _ hP hS ls (lv_sub hl [0, 1, 2] rfl) hF
      · have hF := ite_f (b2i_e0 c7) hF
        exact J38 61 σ (rfl) _ _ hP hS ls (lv_sub hl [0, 1, 2] rfl) hF
  · have hF := ite_f (b2i_e0 c3) hF
    refine lv_iconst (v := 1) hx hb dX9_element_8 (by decide) ?_
    refine lv_goto (tgt := 43) hx hb dX9_element_9 (by decide) ?_
    exact J43 61 (1 : Int32) σ (rfl) _ _ hP hS ls (lv_sub hl [0, 1, 2] rfl) hF
def f_X9_copy_147 (x1 : Int32) (x2 : Int32) (x3 : Int32) (x4 : Int32) (x5 : Int32) (rec122 : Int32 → St → Option (Int32 × St)) (v6 : Int32) (z0 : Int32) (τ : St) : Option (Int32 × St) := (if inb ((((100 : Int32) * x1) + x2) + z0) 800 then if inb ((((100 : Int32) * x3) + x4) + z0) 800 then rec122 (v6 + (1 : Int32)) (up τ 74 (((((100 : Int32) * x3) + x4) + z0).toNatClampNeg) (τ 74 ((((100 : Int32) * x1) + x2) + z0).toNatClampNeg)) else none else none)
theorem f_X9_copy_147_e {x1 : Int32} {x2 : Int32} {x3 : Int32} {x4 : Int32} {x5 : Int32} {rec122 : Int32 → St → Option (Int32 × St)} {v6 : Int32} {z0 : Int32} {τ : St} : f_X9_copy_147 x1 x2 x3 x4 x5 rec122 v6 z0 τ = (if inb ((((100 : Int32) * x1) + x2) + z0) 800 then if inb ((((100 : Int32) * x3) + x4) + z0) 800 then rec122 (v6 + (1 : Int32)) (up τ 74 (((((100 : Int32) * x3) + x4) + z0).toNatClampNeg) (τ 74 ((((100 : Int32) * x1) + x2) + z0).toNatClampNeg)) else none else none) := rfl
def f_X9_copy_122 (x1 : Int32) (x2 : Int32) (x3 : Int32) (x4 : Int32) (x5 : Int32) : Nat → (Int32 → St → Option (Int32 × St))
  | 0 => fun _ _ => none
  | fl + 1 => fun v6 τ => (if x5 ≤ v6 then (some (x5, τ)) else (if x2 ≤ x4 then (f_X9_copy_147 x1 x2 x3 x4 x5 (f_X9_copy_122 x1 x2 x3 x4 x5 fl) v6 ((x5 - (1 : Int32)) - v6) τ) else (f_X9_copy_147 x1 x2 x3 x4 x5 (f_X9_copy_122 x1 x2 x3 x4 x5 fl) v6 v6 τ)))
theorem f_X9_copy_122_s {x1 : Int32} {x2 : Int32} {x3 : Int32} {x4 : Int32} {x5 : Int32} (fl : Nat) {v6 : Int32} {τ : St} : f_X9_copy_122 x1 x2 x3 x4 x5 (fl + 1) v6 τ = (if x5 ≤ v6 then (some (x5, τ)) else (if x2 ≤ x4 then (f_X9_copy_147 x1 x2 x3 x4 x5 (f_X9_copy_122 x1 x2 x3 x4 x5 fl) v6 ((x5 - (1 : Int32)) - v6) τ) else (f_X9_copy_147 x1 x2 x3 x4 x5 (f_X9_copy_122 x1 x2 x3 x4 x5 fl) v6 v6 τ))) := rfl
def f_X9_copy (x1 : Int32) (x2 : Int32) (x3 : Int32) (x4 : Int32) (x5 : Int32) (σ : St) : Option (Int32 × St) := (if (f_X9_isShelf x1) = true then (if (f_X9_isShelf x3) = true then (if inb x1 8 then if (σ 69 x1.toNatClampNeg) = 0 then (some ((-11 : Int32), σ)) else (if inb x3 8 then if (σ 69 x3.toNatClampNeg) = 0 then (some ((-11 : Int32), σ)) else (if inb x1 8 then if (σ 69 x1.toNatClampNeg) = (2 : Int32) then (if inb x3 8 then if (σ 69 x3.toNatClampNeg) = (2 : Int32) then (if inb x1 8 then if inb x3 8 then if (σ 72 x1.toNatClampNeg) = (σ 72 x3.toNatClampNeg) then (if x5 < 0 then (some ((-13 : Int32), σ)) else (if x2 < 0 then (some ((-13 : Int32), σ)) else (if x4 < 0 then (some ((-13 : Int32), σ)) else (if inb x1 8 then if ((σ 73 x1.toNatClampNeg) - x2) < x5 then (some ((-13 : Int32), σ)) else (if inb x3 8 then if x5 ≤ ((σ 73 x3.toNatClampNeg) - x4) then (f_X9_copy_122 x1 x2 x3 x4 x5 fu (0 : Int32) σ) else (some ((-13 : Int32), σ)) else none) else none)))) else (some ((-12 : Int32), σ)) else none else none) else (some ((-12 : Int32), σ)) else none) else (some ((-12 : Int32), σ)) else none) else none) else none) else (some ((-1 : Int32), σ))) else (some ((-1 : Int32), σ)))
set_option maxRecDepth 100000 in
set_option maxHeartbeats 4000000 in
theorem t_X9_copy (l : Launch) (G : GT) (hG : Dw G) (x1 : Int32) (x2 : Int32) (x3 : Int32) (x4 : Int32) (x5 : Int32) (σ : St) (o : Int32 × St) (hF : f_X9_copy x1 x2 x3 x4 x5 σ = some o) : Ct l G yX9_copy wsX9_copy 2 42 [.ref (gA G 61), .int x1, .int x2, .int x3, .int x4, .int x5] σ (some (.int o.1)) o.2 := by
  refine Met.ofW (cc := cX9_copy) (maxL := 8) (ret := (some .int)) (by decide) rfl ?_
  intro p e s m args below meth c s₁ B hml hv
  obtain ⟨rfl, hP, hK⟩ := hv
  have hx := B.exec
  have hb := B.bytes
  have hr := B.returns
  have hts := atoms_spec (ws := wsX9_copy) B.pre
  have hown : s.vm.findClass RX9 = some m.cls := findClass_of_methodNamed B.named
  have hlocks := B.notSynchronized
  have Z : CallFix p m c cX9_copy 8 s _ wsX9_copy RX9 := ⟨hx, hb, hml, hown, hts⟩
  have hS : va_S (AG G) s.heap s.heap [] := va_S.rf
  have inX9 : ∀ w ∈ u_ws RX9 TX9 21, w ∈ wsX9_copy := by decide +kernel
  have w1 := hts (.fieldLink RX9 31 "AlmanacOfTheYearGoneModel" "kept" "[I") (by decide +kernel)
  have w2 := hts (.fieldLink RX9 40 "AlmanacOfTheYearGoneModel" "sort" "[I") (by decide +kernel)
  have w3 := hts (.fieldLink RX9 43 "AlmanacOfTheYearGoneModel" "size" "[I") (by decide +kernel)
  have w4 := hts (.fieldLink RX9 46 "AlmanacOfTheYearGoneModel" "element" "[I") (by decide +kernel)
  have hl := lv_entry ([.ref (gA G 61), .int x1, .int x2, .int x3, .int x4, .int x5]) (n := 8) (Nat.le_of_ble_eq_true rfl)
  rw [lg_entry_eq]
  generalize (lg_sl ([.ref (gA G 61), .int x1, .int x2, .int x3, .int x4, .int x5]) ++ List.replicate (8 - (lg_sl ([.ref (gA G 61), .int x1, .int x2, .int x3, .int x4, .int x5])).length) Slot.unset).toArray = ls at hl ⊢
  have hl : lv_has ls 8 [(0, .ref (gA G 61)), (1, .int x1), (2, .int x2), (3, .int x3), (4, .int x4), (5, .int x5)] := hl
  unfold f_X9_copy at hF
  refine lv_iload_n hx hb dX9_copy_0 rfl (lv_at hl 1 rfl) ?_
  refine k_Sv (As := [.int x1]) (rest := []) Z hK hP hS (t_X9_isShelf l G hG x1 σ) (va_cwS 1 hts gX9_copy_X9_isShelf rfl rfl rfl (by decide +kernel) ⟨Nat.le_of_ble_eq_true rfl, Nat.le_of_ble_eq_true rfl⟩) rfl hl.1 rfl (Nat.le_of_ble_eq_true rfl) ⟨Nat.zero_le _, Nat.zero_le _⟩ dX9_copy_1 (fun H locs hP hS => ?_)
  refine lv_if_eq (tgt := 14) hx hb dX9_copy_4 (by decide) (fun c1 => ?_) (fun c1 => ?_)
  · have hF := ite_f (b2i_e0 c1) hF
    refine lv_iconst (v := -1) hx hb dX9_copy_14 (by decide) ?_
    exact e_iS hx hb hr hP hS hlocks dX9_copy_15 hF
  · have hF := ite_t (b2i_n0 c1) hF
    refine lv_iload_n hx hb dX9_copy_7 rfl (lv_at hl 3 rfl) ?_
    refine k_Sv (As := [.int x3]) (rest := []) Z hK hP hS (t_X9_isShelf l G hG x3 σ) (va_cwS 1 hts gX9_copy_X9_isShelf rfl rfl rfl (by decide +kernel) ⟨Nat.le_of_ble_eq_true rfl, Nat.le_of_ble_eq_true rfl⟩) rfl hl.1 rfl (Nat.le_of_ble_eq_true rfl) ⟨Nat.zero_le _, Nat.zero_le _⟩ dX9_copy_8 (fun H locs hP hS => ?_)
    refine lv_if_ne (tgt := 16) hx hb dX9_copy_11 (by decide) (fun c2 => ?_) (fun c2 => ?_)
    · have hF := ite_t (b2i_n0 c2) hF
      refine lv_aload_n hx hb dX9_copy_16 rfl (lv_at hl 0 rfl) ?_
      refine va_get (ci := 5) (C := RX9) (T := TX9) (N := 21) (v := .ref (gA G 69)) hx hb hts inX9 hown hK.1 hP 61 (at_5 rfl) rfl 14 (by decide) w1 (fun _ h9 => h9) rfl dX9_copy_17 ?_
      refine lv_iload_n hx hb dX9_copy_20 rfl (lv_at hl 1 rfl) ?_
      obtain ⟨b3, hF⟩ := ite_some hF
      refine va_iald hx hb hK.1 hP 69 0 (at_6 (rfl : kd 69 = 6) (rfl : ln 69 = 8)) rfl (inb_in b3) dX9_copy_21 ?_
      refine lv_if_eq (tgt := 34) hx hb dX9_copy_22 (by decide) (fun c4 => ?_) (fun c4 => ?_)
      · have hF := ite_t c4 hF
        refine lv_bipush (v := -11) hx hb dX9_copy_34 (by decide) ?_
        exact e_iS hx hb hr hP hS hlocks dX9_copy_36 hF
      · have hF := ite_f c4 hF
        refine lv_aload_n hx hb dX9_copy_25 rfl (lv_at hl 0 rfl) ?_
        refine va_get (ci := 5) (C := RX9) (T := TX9) (N := 21) (v := .ref (gA G 69)) hx hb hts inX9 hown hK.1 hP 61 (at_5 rfl) rfl 14 (by decide) w1 (fun _ h9 => h9) rfl dX9_copy_26 ?_
        refine lv_iload_n hx hb dX9_copy_29 rfl (lv_at hl 3 rfl) ?_
        obtain ⟨b5, hF⟩ := ite_some hF
        refine va_iald hx hb hK.1 hP 69 0 (at_6 (rfl : kd 69 = 6) (rfl : ln 69 = 8)) rfl (inb_in b5) dX9_copy_30 ?_
        refine lv_if_ne (tgt := 37) hx hb dX9_copy_31 (by decide) (fun c6 => ?_) (fun c6 => ?_)
        · have hF := ite_f c6 hF
          refine lv_aload_n hx hb dX9_copy_37 rfl (lv_at hl 0 rfl) ?_
          refine va_get (ci := 5) (C := RX9) (T := TX9) (N := 21) (v := .ref (gA G 69)) hx hb hts inX9 hown hK.1 hP 61 (at_5 rfl) rfl 14 (by decide) w1 (fun _ h9 => h9) rfl dX9_copy_38 ?_
          refine lv_iload_n hx hb dX9_copy_41 rfl (lv_at hl 1 rfl) ?_
          obtain ⟨b7, hF⟩ := ite_some hF
          refine va_iald hx hb hK.1 hP 69 0 (at_6 (rfl : kd 69 = 6) (rfl : ln 69 = 8)) rfl (inb_in b7) dX9_copy_42 ?_
          refine lv_iconst (v := 2) hx hb dX9_copy_43 (by decide) ?_
          refine lv_icmp_ne (tgt := 72) hx hb dX9_copy_44 (by decide) (fun c8 => ?_) (fun c8 => ?_)
          · have hF := ite_f c8 hF
            refine lv_bipush (v := -12) hx hb dX9_copy_72 (by decide) ?_
            exact e_iS hx hb hr hP hS hlocks dX9_copy_74 hF
          · have hF := ite_t c8 hF
            refine lv_aload_n hx hb dX9_copy_47 rfl (lv_at hl 0 rfl) ?_
            refine va_get (ci := 5) (C := RX9) (T := TX9) (N := 21) (v := .ref (gA G 69)) hx hb hts inX9 hown hK.1 hP 61 (at_5 rfl) rfl 14 (by decide) w1 (fun _ h9 => h9) rfl dX9_copy_48 ?_
            refine lv_iload_n hx hb dX9_copy_51 rfl (lv_at hl 3 rfl) ?_
            obtain ⟨b9, hF⟩ := ite_some hF
            refine va_iald hx hb hK.1 hP 69 0 (at_6 (rfl : kd 69 = 6) (rfl : ln 69 = 8)) rfl (inb_in b9) dX9_copy_52 ?_
            refine lv_iconst (v := 2) hx hb dX9_copy_53 (by decide) ?_
            refine lv_icmp_ne (tgt := 72) hx hb dX9_copy_54 (by decide) (fun c10 => ?_) (fun c10 => ?_)
            · have hF := ite_f c10 hF
              refine lv_bipush (v := -12) hx hb dX9_copy_72 (by decide) ?_
              exact e_iS hx hb hr hP hS hlocks dX9_copy_74 hF
            · have hF := ite_t c10 hF
              refine lv_aload_n hx hb dX9_copy_57 rfl (lv_at hl 0 rfl) ?_
              refine va_get (ci := 5) (C := RX9) (T := TX9) (N := 21) (v := .ref (gA G 72)) hx hb hts inX9 hown hK.1 hP 61 (at_5 rfl) rfl 17 (by decide) w2 (fun _ h9 => h9) rfl dX9_copy_58 ?_
              refine lv_iload_n hx hb dX9_copy_61 rfl (lv_at hl 1 rfl) ?_
              obtain ⟨b11, hF⟩ := ite_some hF
              refine va_iald hx hb hK.1 hP 72 0 (at_6 (rfl : kd 72 = 6) (rfl : ln 72 = 8)) rfl (inb_in b11) dX9_copy_62 ?_
              refine lv_aload_n hx hb dX9_copy_63 rfl (lv_at hl 0 rfl) ?_
              refine va_get (ci := 5) (C := RX9) (T := TX9) (N := 21) (v := .ref (gA G 72)) hx hb hts inX9 hown hK.1 hP 61 (at_5 rfl) rfl 17 (by decide) w2 (fun _ h9 => h9) rfl dX9_copy_64 ?_
              refine lv_iload_n hx hb dX9_copy_67 rfl (lv_at hl 3 rfl) ?_
              obtain ⟨b12, hF⟩ := ite_some hF
              refine va_iald hx hb hK.1 hP 72 0 (at_6 (rfl : kd 72 = 6) (rfl : ln 72 = 8)) rfl (inb_in b12) dX9_copy_68 ?_
              refine lv_icmp_eq (tgt := 75) hx hb dX9_copy_69 (by decide) (fun c13 => ?_) (fun c13 => ?_)
              · have hF := ite_t c13 hF
                refine lv_iload hx hb dX9_copy_75 (lv_at hl 5 rfl) ?_
                refine lv_if_lt (tgt := 116) hx hb dX9_copy_77 (by decide) (fun c14 => ?_) (fun c14 => ?_)
                · have hF := ite_t c14 hF
                  refine lv_bipush (v := -13) hx hb dX9_copy_116 (by decide) ?_
                  exact e_iS hx hb hr hP hS hlocks dX9_copy_118 hF
                · have hF := ite_f c14 hF
                  refine lv_iload_n hx hb dX9_copy_80 rfl (lv_at hl 2 rfl) ?_
                  refine lv_if_lt (tgt := 116) hx hb dX9_copy_81 (by decide) (fun c15 => ?_) (fun c15 => ?_)
                  · have hF := ite_t c15 hF
                    refine lv_bipush (v := -13) hx hb dX9_copy_116 (by decide) ?_
                    exact e_iS hx hb hr hP hS hlocks dX9_copy_118 hF
                  · have hF := ite_f c15 hF
                    refine lv_iload hx hb dX9_copy_84 (lv_at hl 4 rfl) ?_
                    refine lv_if_lt (tgt := 116) hx hb dX9_copy_86 (by decide) (fun c16 => ?_) (fun c16 => ?_)
                    · have hF := ite_t c16 hF
                      refine lv_bipush (v := -13) hx hb dX9_copy_116 (by decide) ?_
                      exact e_iS hx hb hr hP hS hlocks dX9_copy_118 hF
                    · have hF := ite_f c16 hF
                      refine lv_iload hx hb dX9_copy_89 (lv_at hl 5 rfl) ?_
                      refine lv_aload_n hx hb dX9_copy_91 rfl (lv_at hl 0 rfl) ?_
                      refine va_get (ci := 5) (C := RX9) (T := TX9) (N := 21) (v := .ref (gA G 73)) hx hb hts inX9 hown hK.1 hP 61 (at_5 rfl) rfl 18 (by decide) w3 (fun _ h9 => h9) rfl dX9_copy_92 ?_
                      refine lv_iload_n hx hb dX9_copy_95 rfl (lv_at hl 1 rfl) ?_
                      obtain ⟨b17, hF⟩ := ite_some hF
                      refine va_iald hx hb hK.1 hP 73 0 (at_6 (rfl : kd 73 = 6) (rfl : ln 73 = 8)) rfl (inb_in b17) dX9_copy_96 ?_
                      refine lv_iload_n hx hb dX9_copy_97 rfl (lv_at hl 2 rfl) ?_
                      refine lv_isub hx hb dX9_copy_98 ?_
                      refine lv_icmp_gt (tgt := 116) hx hb dX9_copy_99 (by decide) (fun c18 => ?_) (fun c18 => ?_)
                      · have hF := ite_t c18 hF
                        refine lv_bipush (v := -13) hx hb dX9_copy_116 (by decide) ?_
                        exact e_iS hx hb hr hP hS hlocks dX9_copy_118 hF
                      · have hF := ite_f c18 hF
                        refine lv_iload hx hb dX9_copy_102 (lv_at hl 5 rfl) ?_
                        refine lv_aload_n hx hb dX9_copy_104 rfl (lv_at hl 0 rfl) ?_
                        refine va_get (ci := 5) (C := RX9) (T := TX9) (N := 21) (v := .ref (gA G 73)) hx hb hts inX9 hown hK.1 hP 61 (at_5 rfl) rfl 18 (by decide) w3 (fun _ h9 => h9) rfl dX9_copy_105 ?_
                        refine lv_iload_n hx hb dX9_copy_108 rfl (lv_at hl 3 rfl) ?_
                        obtain ⟨b19, hF⟩ := ite_some hF
                        refine va_iald hx hb hK.1 hP 73 0 (at_6 (rfl : kd 73 = 6) (rfl : ln 73 = 8)) rfl (inb_in b19) dX9_copy_109 ?_
                        refine lv_iload hx hb dX9_copy_110 (lv_at hl 4 rfl) ?_
                        refine lv_isub hx hb dX9_copy_112 ?_
                        refine lv_icmp_le (tgt := 119) hx hb dX9_copy_113 (by decide) (fun c20 => ?_) (fun c20 => ?_)
                        · have hF := ite_t c20 hF
                          refine lv_iconst (v := 0) hx hb dX9_copy_119 (by decide) ?_
                          have J122 : ∀ (fl : Nat) (v6 : Int32) (τ : St) (H : Heap) (locs : List Loc) (hP : Pw G τ H) (hS : va_S (AG G) s.heap H locs) (ls : Array Slot) (hl : lv_has ls 8 [(0, .ref (gA G 61)), (1, .int x1), (2, .int x2), (3, .int x3), (4, .int x4), (5, .int x5), (6, .int v6)]) (hF : f_X9_copy_122 x1 x2 x3 x4 x5 fl v6 τ = some o), W p l e (headSpec wsX9_copy ({ frames := 2, cells := 0, slots := 0, locals := 42 })).room s m ([.ref (gA G 61), .int x1, .int x2, .int x3, .int x4, .int x5] : List Value).toArray below meth c H locs 0 0 (MQ below (qR G (some (.int o.1)) o.2) ([.ref (gA G 61), .int x1, .int x2, .int x3, .int x4, .int x5] : List Value).toArray s 0 0 (AG G)) (F0 m 122 ls []) := by
                            intro fl122
                            induction fl122 with
                            | zero => intro v6 τ H locs hP hS ls hl hF; cases hF
                            | succ fl122 ih122 =>
                              intro v6 τ H locs hP hS ls hl hF
                              rw [f_X9_copy_122_s] at hF
                              refine lv_iload hx hb dX9_copy_122 (lv_at hl 6 rfl) ?_
                              refine lv_iload hx hb dX9_copy_124 (lv_at hl 5 rfl) ?_
                              refine lv_icmp_ge (tgt := 184) hx hb dX9_copy_126 (by decide) (fun c21 => ?_) (fun c21 => ?_)
                              · have hF := ite_t c21 hF
                                refine lv_iload hx hb dX9_copy_184 (lv_at hl 5 rfl) ?_
                                exact e_iS hx hb hr hP hS hlocks dX9_copy_186 hF
                              · have hF := ite_f c21 hF
                                refine lv_iload_n hx hb dX9_copy_129 rfl (lv_at hl 2 rfl) ?_
                                refine lv_iload hx hb dX9_copy_130 (lv_at hl 4 rfl) ?_
                                have J147 : ∀ (v6 : Int32) (z0 : Int32) (τ : St) (H : Heap) (locs : List Loc) (hP : Pw G τ H) (hS : va_S (AG G) s.heap H locs) (ls : Array Slot) (hl : lv_has ls 8 [(0, .ref (gA G 61)), (1, .int x1), (2, .int x2), (3, .int x3), (4, .int x4), (5, .int x5), (6, .int v6)]) (hF : f_X9_copy_147 x1 x2 x3 x4 x5 (f_X9_copy_122 x1 x2 x3 x4 x5 fl122) v6 z0 τ = some o), W p l e (headSpec wsX9_copy ({ frames := 2, cells := 0, slots := 0, locals := 42 })).room s m ([.ref (gA G 61), .int x1, .int x2, .int x3, .int x4, .int x5] : List Value).toArray below meth c H locs 0 0 (MQ below (qR G (some (.int o.1)) o.2) ([.ref (gA G 61), .int x1, .int x2, .int x3, .int x4, .int x5] : List Value).toArray s 0 0 (AG G)) (F0 m 147 ls [.int z0]) := by
                                  intro v6 z0 τ H locs hP hS ls hl hF
                                  rw [f_X9_copy_147_e] at hF
                                  refine lv_istore (lv' := [(7, .int z0), (0, .ref (gA G 61)), (1, .int x1), (2, .int x2), (3, .int x3), (4, .int x4), (5, .int x5), (6, .int v6)]) hx hb dX9_copy_147 hl (by decide) rfl (fun ls hl => ?_)
                                  refine lv_aload_n hx hb dX9_copy_149 rfl (lv_at hl 1 rfl) ?_
                                  refine va_get (ci := 5) (C := RX9) (T := TX9) (N := 21) (v := .ref (gA G 74)) hx hb hts inX9 hown hK.1 hP 61 (at_5 rfl) rfl 19 (by decide) w4 (fun _ h9 => h9) rfl dX9_copy_150 ?_
                                  refine lv_bipush (v := 100) hx hb dX9_copy_153 (by decide) ?_
                                  refine lv_iload_n hx hb dX9_copy_155 rfl (lv_at hl 4 rfl) ?_
                                  refine lv_imul hx hb dX9_copy_156 ?_
                                  refine lv_iload hx hb dX9_copy_157 (lv_at hl 5 rfl) ?_
                                  refine lv_iadd hx hb dX9_copy_159 ?_
                                  refine lv_iload hx hb dX9_copy_160 (lv_at hl 0 rfl) ?_
                                  refine lv_iadd hx hb dX9_copy_162 ?_
                                  refine lv_aload_n hx hb dX9_copy_163 rfl (lv_at hl 1 rfl) ?_
                                  refine va_get (ci := 5) (C := RX9) (T := TX9) (N := 21) (v := .ref (gA G 74)) hx hb hts inX9 hown hK.1 hP 61 (at_5 rfl) rfl 19 (by decide) w4 (fun _ h9 => h9) rfl dX9_copy_164 ?_
                                  refine lv_bipush (v := 100) hx hb dX9_copy_167 (by decide) ?_
                                  refine lv_iload_n hx hb dX9_copy_169 rfl (lv_at hl 2 rfl) ?_
                                  refine lv_imul hx hb dX9_copy_170 ?_
                                  refine lv_iload_n hx hb dX9_copy_171 rfl (lv_at hl 3 rfl) ?_
                                  refine lv_iadd hx hb dX9_copy_172 ?_
                                  refine lv_iload hx hb dX9_copy_173 (lv_at hl 0 rfl) ?_
                                  refine lv_iadd hx hb dX9_copy_175 ?_
                                  obtain ⟨b22, hF⟩ := ite_some hF
                                  refine va_iald hx hb hK.1 hP 74 0 (at_6 (rfl : kd 74 = 6) (rfl : ln 74 = 800)) rfl (inb_in b22) dX9_copy_176 ?_
                                  obtain ⟨b23, hF⟩ := ite_some hF
                                  refine va_iast hx hb hK.1 hP (Dw.D hG) hS 74 0 (at_6 (rfl : kd 74 = 6) (rfl : ln 74 = 800)) rfl (inb_in b23) dX9_copy_177 (fun H locs hP _ hS => ?_)
                                  have hP : Pw G (up τ 74 (((((100 : Int32) * x3) + x4) + z0).toNatClampNeg) (τ 74 ((((100 : Int32) * x1) + x2) + z0).toNatClampNeg)) H := Pw.of hP (set_6 (rfl : kd 74 = 6) (rfl : ln 74 = 800))
                                  refine lv_iinc (v := (v6 + (1 : Int32))) (lv' := [(6, .int (v6 + (1 : Int32))), (7, .int z0), (0, .ref (gA G 61)), (1, .int x1), (2, .int x2), (3, .int x3), (4, .int x4), (5, .int x5)]) hx hb dX9_copy_178 hl (k := 7) rfl rfl (by decide) rfl (fun ls hl => ?_)
                                  refine lv_goto (tgt := 122) hx hb dX9_copy_181 (by decide) ?_
                                  exact ih122 (v6 + (1 : Int32)) (up τ 74 (((((100 : Int32) * x3) + x4) + z0).toNatClampNeg) (τ 74 ((((100 : Int32) * x1) + x2) + z0).toNatClampNeg)) _ _ hP hS ls (lv_sub hl [2, 3, 4, 5, 6, 7, 0] rfl) hF
                                refine lv_icmp_le (tgt := 140) hx hb dX9_copy_132 (by decide) (fun c24 => ?_) (fun c24 => ?_)
                                · have hF := ite_t c24 hF
                                  refine lv_iload hx hb dX9_copy_140 (lv_at hl 5 rfl) ?_
                                  refine lv_iconst (v := 1) hx hb dX9_copy_142 (by decide) ?_
                                  refine lv_isub hx hb dX9_copy_143 ?_
                                  refine lv_iload hx hb dX9_copy_144 (lv_at hl 6 rfl) ?_
                                  refine lv_isub hx hb dX9_copy_146 ?_
                                  exact J147 v6 ((x5 - (1 : Int32)) - v6) τ _ _ hP hS ls (lv_sub hl [0, 1, 2, 3, 4, 5, 6] rfl) hF
                                · have hF := ite_f c24 hF
                                  refine lv_iload hx hb dX9_copy_135 (lv_at hl 6 rfl) ?_
                                  refine lv_goto (tgt := 147) hx hb dX9_copy_137 (by decide) ?_
                                  exact J147 v6 v6 τ _ _ hP hS ls (lv_sub hl [0, 1, 2, 3, 4, 5, 6] rfl) hF
                          refine lv_istore (lv' := [(6, .int (0 : Int32)), (0, .ref (gA G 61)), (1, .int x1), (2, .int x2), (3, .int x3), (4, .int x4), (5, .int x5)]) hx hb dX9_copy_120 hl (by decide) rfl (fun ls hl => ?_)
                          exact J122 fu (0 : Int32) σ _ _ hP hS ls (lv_sub hl [1, 2, 3, 4, 5, 6, 0] rfl) hF
                        · have hF := ite_f c20 hF
                          refine lv_bipush (v := -13) hx hb dX9_copy_116 (by decide) ?_
                          exact e_iS hx hb hr hP hS hlocks dX9_copy_118 hF
              · have hF := ite_f c13 hF
                refine lv_bipush (v := -12) hx hb dX9_copy_72 (by decide) ?_
                exact e_iS hx hb hr hP hS hlocks dX9_copy_74 hF
        · have hF := ite_t c6 hF
          refine lv_bipush (v := -11) hx hb dX9_copy_34 (by decide) ?_
          exact e_iS hx hb hr hP hS hlocks dX9_copy_36 hF
    · have hF := ite_f (b2i_e0 c2) hF
      refine lv_iconst (v := -1) hx hb dX9_copy_14 (by decide) ?_
      exact e_iS hx hb hr hP hS hlocks dX9_copy_15 hF
def f_X9_costBy (x0 : Int32) (x1 : Int32) : Int32 := (if x0 = (1 : Int32) then ((3 : Int32) + x1) else if x0 = (2 : Int32) then ((7 : Int32)) else if x0 = (3 : Int32) then ((5 : Int32)) else if x0 = (4 : Int32) then ((1 : Int32)) else if x0 = (5 : Int32) then ((8 : Int32) + x1) else if x0 = (6 : Int32) then ((3 : Int32)) else if x0 = (7 : Int32) then ((6 : Int32) + ((2 : Int32) * x1)) else ((3 : Int32)))
set_option maxRecDepth 100000 in
set_option maxHeartbeats 4000000 in
theorem t_X9_costBy (l : Launch) (G : GT) (hG : Dw G) (x0 : Int32) (x1 : Int32) (σ : St) : Ct l G yX9_costBy wsX9_costBy 0 0 [.int x0, .int x1] σ (some (.int (f_X9_costBy x0 x1))) σ := by
  obtain ⟨o, hF⟩ : ∃ o, f_X9_costBy x0 x1 = o := ⟨_, rfl⟩
  rw [hF]
  refine Met.ofW (cc := cX9_costBy) (maxL := 2) (ret := (some .int)) (by decide) rfl ?_
  intro p e s m args below meth c s₁ B hml hv
  obtain ⟨rfl, hP, hK⟩ := hv
  have hx := B.exec
  have hb := B.bytes
  have hr := B.returns
  have hts := atoms_spec (ws := wsX9_costBy) B.pre
  have hown : s.vm.findClass RX9 = some m.cls := findClass_of_methodNamed B.named
  have hlocks := B.notSynchronized
  have Z : CallFix p m c cX9_costBy 2 s _ wsX9_costBy RX9 := ⟨hx, hb, hml, hown, hts⟩
  have hS : va_S (AG G) s.heap s.heap [] := va_S.rf
  have hl := lv_entry ([.int x0, .int x1]) (n := 2) (Nat.le_of_ble_eq_true rfl)
  rw [lg_entry_eq]
  generalize (lg_sl ([.int x0, .int x1]) ++ List.replicate (2 - (lg_sl ([.int x0, .int x1])).length) Slot.unset).toArray = ls at hl ⊢
  have hl : lv_has ls 2 [(0, .int x0), (1, .int x1)] := hl
  unfold f_X9_costBy at hF
  refine lv_iload_n hx hb dX9_costBy_0 rfl (lv_at hl 0 rfl) ?_
  by_cases c1 : x0 = (1 : Int32)
  · have hF := ite_t c1 hF
    refine lv_tableIn (off := 43) (tgt := 44) hx hb dX9_costBy_1 (by rw [c1]; decide) (by rw [c1]; decide) (by rw [c1]; rfl) (by decide) ?_
    refine lv_iconst (v := 3) hx hb dX9_costBy_44 (by decide) ?_
    refine lv_iload_n hx hb dX9_costBy_45 rfl (lv_at hl 1 rfl) ?_
    refine lv_iadd hx hb dX9_costBy_46 ?_
    exact e_iT hx hb hr hP hS hlocks dX9_costBy_47 hF
  · have hF := ite_f c1 hF
    by_cases c2 : x0 = (2 : Int32)
    · have hF := ite_t c2 hF
      refine lv_tableIn (off := 47) (tgt := 48) hx hb dX9_costBy_1 (by rw [c2]; decide) (by rw [c2]; decide) (by rw [c2]; rfl) (by decide) ?_
      refine lv_bipush (v := 7) hx hb dX9_costBy_48 (by decide) ?_
      exact e_iT hx hb hr hP hS hlocks dX9_costBy_50 hF
    · have hF := ite_f c2 hF
      by_cases c3 : x0 = (3 : Int32)
      · have hF := ite_t c3 hF
        refine lv_tableIn (off := 50) (tgt := 51) hx hb dX9_costBy_1 (by rw [c3]; decide) (by rw [c3]; decide) (by rw [c3]; rfl) (by decide) ?_
        refine lv_iconst (v := 5) hx hb dX9_costBy_51 (by decide) ?_
        exact e_iT hx hb hr hP hS hlocks dX9_costBy_52 hF
      · have hF := ite_f c3 hF
        by_cases c4 : x0 = (4 : Int32)
        · have hF := ite_t c4 hF
          refine lv_tableIn (off := 52) (tgt := 53) hx hb dX9_costBy_1 (by rw [c4]; decide) (by rw [c4]; decide) (by rw [c4]; rfl) (by decide) ?_
          refine lv_iconst (v := 1) hx hb dX9_costBy_53 (by decide) ?_
          exact e_iT hx hb hr hP hS hlocks dX9_costBy_54 hF
        · have hF := ite_f c4 hF
          by_cases c5 : x0 = (5 : Int32)
          · have hF := ite_t c5 hF
            refine lv_tableIn (off := 54) (tgt := 55) hx hb dX9_costBy_1 (by rw [c5]; decide) (by rw [c5]; decide) (by rw [c5]; rfl) (by decide) ?_
            refine lv_bipush (v := 8) hx hb dX9_costBy_55 (by decide) ?_
            refine lv_iload_n hx hb dX9_costBy_57 rfl (lv_at hl 1 rfl) ?_
            refine lv_iadd hx hb dX9_costBy_58 ?_
            exact e_iT hx hb hr hP hS hlocks dX9_costBy_59 hF
          · have hF := ite_f c5 hF
            by_cases c6 : x0 = (6 : Int32)
            · have hF := ite_t c6 hF
              refine lv_tableIn (off := 66) (tgt := 67) hx hb dX9_costBy_1 (by rw [c6]; decide) (by rw [c6]; decide) (by rw [c6]; rfl) (by decide) ?_
              refine lv_iconst (v := 3) hx hb dX9_costBy_67 (by decide) ?_
              exact e_iT hx hb hr hP hS hlocks dX9_costBy_68 hF
            · have hF := ite_f c6 hF
              by_cases c7 : x0 = (7 : Int32)
              · have hF := ite_t c7 hF
                refine lv_tableIn (off := 59) (tgt := 60) hx hb dX9_costBy_1 (by rw [c7]; decide) (by rw [c7]; decide) (by rw [c7]; rfl) (by decide) ?_
                refine lv_bipush (v := 6) hx hb dX9_costBy_60 (by decide) ?_
                refine lv_iconst (v := 2) hx hb dX9_costBy_62 (by decide) ?_
                refine lv_iload_n hx hb dX9_costBy_63 rfl (lv_at hl 1 rfl) ?_
                refine lv_imul hx hb dX9_costBy_64 ?_
                refine lv_iadd hx hb dX9_costBy_65 ?_
                exact e_iT hx hb hr hP hS hlocks dX9_costBy_66 hF
              · have hF := ite_f c7 hF
                have n0 := lv_neT c1 (by decide : ((1 : Int32)).toInt = 1)
                have n1 := lv_neT c2 (by decide : ((2 : Int32)).toInt = 2)
                have n2 := lv_neT c3 (by decide : ((3 : Int32)).toInt = 3)
                have n3 := lv_neT c4 (by decide : ((4 : Int32)).toInt = 4)
                have n4 := lv_neT c5 (by decide : ((5 : Int32)).toInt = 5)
                have n5 := lv_neT c6 (by decide : ((6 : Int32)).toInt = 6)
                have n6 := lv_neT c7 (by decide : ((7 : Int32)).toInt = 7)
                refine lv_tableOut (tgt := 67) hx hb dX9_costBy_1 (by omega) (by decide) ?_
                refine lv_iconst (v := 3) hx hb dX9_costBy_67 (by decide) ?_
                exact e_iT hx hb hr hP hS hlocks dX9_costBy_68 hF
def f_X9_cost (x1 : Int32) (σ : St) : Option Int32 := (ob (f_X9_wrongKept x1 σ) (fun q1 => if q1 = 0 then (if inb x1 8 then if inb x1 8 then some (f_X9_costBy (σ 70 x1.toNatClampNeg) (σ 71 x1.toNatClampNeg)) else none else none) else (some q1)))
set_option maxRecDepth 100000 in
set_option maxHeartbeats 4000000 in
theorem t_X9_cost (l : Launch) (G : GT) (hG : Dw G) (x1 : Int32) (σ : St) (o : Int32) (hF : f_X9_cost x1 σ = some o) : Ct l G yX9_cost wsX9_cost 3 63 [.ref (gA G 61), .int x1] σ (some (.int o)) σ := by
  refine Met.ofW (cc := cX9_cost) (maxL := 3) (ret := (some .int)) (by decide) rfl ?_
  intro p e s m args below meth c s₁ B hml hv
  obtain ⟨rfl, hP, hK⟩ := hv
  have hx := B.exec
  have hb := B.bytes
  have hr := B.returns
  have hts := atoms_spec (ws := wsX9_cost) B.pre
  have hown : s.vm.findClass RX9 = some m.cls := findClass_of_methodNamed B.named
  have hlocks := B.notSynchronized
  have Z : CallFix p m c cX9_cost 3 s _ wsX9_cost RX9 := ⟨hx, hb, hml, hown, hts⟩
  have hS : va_S (AG G) s.heap s.heap [] := va_S.rf
  have inX9 : ∀ w ∈ u_ws RX9 TX9 21, w ∈ wsX9_cost := by decide +kernel
  have w1 := hts (.fieldLink RX9 34 "AlmanacOfTheYearGoneModel" "keptKind" "[I") (by decide +kernel)
  have w2 := hts (.fieldLink RX9 37 "AlmanacOfTheYearGoneModel" "keptFigure" "[I") (by decide +kernel)
  have hl := lv_entry ([.ref (gA G 61), .int x1]) (n := 3) (Nat.le_of_ble_eq_true rfl)
  rw [lg_entry_eq]
  generalize (lg_sl ([.ref (gA G 61), .int x1]) ++ List.replicate (3 - (lg_sl ([.ref (gA G 61), .int x1])).length) Slot.unset).toArray = ls at hl ⊢
  have hl : lv_has ls 3 [(0, .ref (gA G 61)), (1, .int x1)] := hl
  unfold f_X9_cost at hF
  refine lv_aload_n hx hb dX9_cost_0 rfl (lv_at hl 0 rfl) ?_
  refine lv_iload_n hx hb dX9_cost_1 rfl (lv_at hl 1 rfl) ?_
  obtain ⟨q1, h2, hF⟩ := ob_some hF
  refine k_Vv (As := [.int x1]) (rest := []) Z hK hP hS (t_X9_wrongKept l G hG x1 σ _ h2) (cwV 1 hts gX9_cost_X9_wrongKept rfl rfl rfl (by decide +kernel) ⟨Nat.le_of_ble_eq_true rfl, Nat.le_of_ble_eq_true rfl⟩) (at_5 rfl) rfl rfl hl.1 rfl (Nat.le_of_ble_eq_true rfl) ⟨Nat.zero_le _, Nat.zero_le _⟩ dX9_cost_2 (fun H locs hP hS => ?_)
  refine lv_istore_n (lv' := [(2, .int q1), (0, .ref (gA G 61)), (1, .int x1)]) hx hb dX9_cost_5 rfl hl (by decide) rfl (fun ls hl => ?_)
  refine lv_iload_n hx hb dX9_cost_6 rfl (lv_at hl 0 rfl) ?_
  refine lv_if_eq (tgt := 14) hx hb dX9_cost_7 (by decide) (fun c3 => ?_) (fun c3 => ?_)
  · have hF := ite_t c3 hF
    refine lv_aload_n hx hb dX9_cost_14 rfl (lv_at hl 1 rfl) ?_
    refine va_get (ci := 5) (C := RX9) (T := TX9) (N := 21) (v := .ref (gA G 70)) hx hb hts inX9 hown hK.1 hP 61 (at_5 rfl) rfl 15 (by decide) w1 (fun _ h9 => h9) rfl dX9_cost_15 ?_
    refine lv_iload_n hx hb dX9_cost_18 rfl (lv_at hl 2 rfl) ?_
    obtain ⟨b4, hF⟩ := ite_some hF
    refine va_iald hx hb hK.1 hP 70 0 (at_6 (rfl : kd 70 = 6) (rfl : ln 70 = 8)) rfl (inb_in b4) dX9_cost_19 ?_
    refine lv_aload_n hx hb dX9_cost_20 rfl (lv_at hl 1 rfl) ?_
    refine va_get (ci := 5) (C := RX9) (T := TX9) (N := 21) (v := .ref (gA G 71)) hx hb hts inX9 hown hK.1 hP 61 (at_5 rfl) rfl 16 (by decide) w2 (fun _ h9 => h9) rfl dX9_cost_21 ?_
    refine lv_iload_n hx hb dX9_cost_24 rfl (lv_at hl 2 rfl) ?_
    obtain ⟨b5, hF⟩ := ite_some hF
    refine va_iald hx hb hK.1 hP 71 0 (at_6 (rfl : kd 71 = 6) (rfl : ln 71 = 8)) rfl (inb_in b5) dX9_cost_25 ?_
    refine k_Sv (As := [.int (σ 70 x1.toNatClampNeg), .int (σ 71 x1.toNatClampNeg)]) (rest := []) Z hK hP hS (t_X9_costBy l G hG (σ 70 x1.toNatClampNeg) (σ 71 x1.toNatClampNeg) σ) (va_cwS 2 hts gX9_cost_X9_costBy rfl rfl rfl (by decide +kernel) ⟨Nat.le_of_ble_eq_true rfl, Nat.le_of_ble_eq_true rfl⟩) rfl hl.1 rfl (Nat.le_of_ble_eq_true rfl) ⟨Nat.zero_le _, Nat.zero_le _⟩ dX9_cost_26 (fun H locs hP hS => ?_)
    exact e_iP hx hb hr hP hS hlocks dX9_cost_29 hF
  · have hF := ite_f c3 hF
    refine lv_iload_n hx hb dX9_cost_10 rfl (lv_at hl 0 rfl) ?_
    refine lv_goto (tgt := 29) hx hb dX9_cost_11 (by decide) ?_
    exact e_iP hx hb hr hP hS hlocks dX9_cost_29 hF
def f_X9_toss_75 (x1 : Int32) (σ : St) (v4 : Int32) : Option Int32 := (some ((100 : Int32) + v4))
theorem f_X9_toss_75_e {x1 : Int32} {σ : St} {v4 : Int32} : f_X9_toss_75 x1 σ v4 = (some ((100 : Int32) + v4)) := rfl
def f_X9_toss (x1 : Int32) (σ : St) : Option Int32 := (ob (f_X9_wrongKept x1 σ) (fun q1 => if q1 = 0 then (if inb x1 8 then if inb x1 8 then if (σ 70 x1.toNatClampNeg) = (4 : Int32) then (some (-15 : Int32)) else (if (σ 70 x1.toNatClampNeg) = (6 : Int32) then (some (-15 : Int32)) else (if (σ 71 x1.toNatClampNeg) = 0 then (some (-15 : Int32)) else (if (σ 70 x1.toNatClampNeg) = (7 : Int32) then (some ((200 : Int32) + (f_X9_costBy (σ 70 x1.toNatClampNeg) (σ 71 x1.toNatClampNeg)))) else (if (σ 70 x1.toNatClampNeg) = (1 : Int32) then f_X9_toss_75 x1 σ (σ 71 x1.toNatClampNeg) else (if (σ 70 x1.toNatClampNeg) = (5 : Int32) then f_X9_toss_75 x1 σ (σ 71 x1.toNatClampNeg) else (some (σ 71 x1.toNatClampNeg))))))) else none else none) else (some q1)))
set_option maxRecDepth 100000 in
set_option maxHeartbeats 4000000 in
theorem t_X9_toss (l : Launch) (G : GT) (hG : Dw G) (x1 : Int32) (σ : St) (o : Int32) (hF : f_X9_toss x1 σ = some o) : Ct l G yX9_toss wsX9_toss 3 63 [.ref (gA G 61), .int x1] σ (some (.int o)) σ := by
  refine Met.ofW (cc := cX9_toss) (maxL := 5) (ret := (some .int)) (by decide) rfl ?_
  intro p e s m args below meth c s₁ B hml hv
  obtain ⟨rfl, hP, hK⟩ := hv
  have hx := B.exec
  have hb := B.bytes
  have hr := B.returns
  have hts := atoms_spec (ws := wsX9_toss) B.pre
  have hown : s.vm.findClass RX9 = some m.cls := findClass_of_methodNamed B.named
  have hlocks := B.notSynchronized
  have Z : CallFix p m c cX9_toss 5 s _ wsX9_toss RX9 := ⟨hx, hb, hml, hown, hts⟩
  have hS : va_S (AG G) s.heap s.heap [] := va_S.rf
  have inX9 : ∀ w ∈ u_ws RX9 TX9 21, w ∈ wsX9_toss := by decide +kernel
  have w1 := hts (.fieldLink RX9 34 "AlmanacOfTheYearGoneModel" "keptKind" "[I") (by decide +kernel)
  have w2 := hts (.fieldLink RX9 37 "AlmanacOfTheYearGoneModel" "keptFigure" "[I") (by decide +kernel)
  have hl := lv_entry ([.ref (gA G 61), .int x1]) (n := 5) (Nat.le_of_ble_eq_true rfl)
  rw [lg_entry_eq]
  generalize (lg_sl ([.ref (gA G 61), .int x1]) ++ List.replicate (5 - (lg_sl ([.ref (gA G 61), .int x1])).length) Slot.unset).toArray = ls at hl ⊢
  have hl : lv_has ls 5 [(0, .ref (gA G 61)), (1, .int x1)] := hl
  unfold f_X9_toss at hF
  refine lv_aload_n hx hb dX9_toss_0 rfl (lv_at hl 0 rfl) ?_
  refine lv_iload_n hx hb dX9_toss_1 rfl (lv_at hl 1 rfl) ?_
  obtain ⟨q1, h2, hF⟩ := ob_some hF
  refine k_Vv (As := [.int x1]) (rest := []) Z hK hP hS (t_X9_wrongKept l G hG x1 σ _ h2) (cwV 1 hts gX9_toss_X9_wrongKept rfl rfl rfl (by decide +kernel) ⟨Nat.le_of_ble_eq_true rfl, Nat.le_of_ble_eq_true rfl⟩) (at_5 rfl) rfl rfl hl.1 rfl (Nat.le_of_ble_eq_true rfl) ⟨Nat.zero_le _, Nat.zero_le _⟩ dX9_toss_2 (fun H locs hP hS => ?_)
  refine lv_istore_n (lv' := [(2, .int q1), (0, .ref (gA G 61)), (1, .int x1)]) hx hb dX9_toss_5 rfl hl (by decide) rfl (fun ls hl => ?_)
  refine lv_iload_n hx hb dX9_toss_6 rfl (lv_at hl 0 rfl) ?_
  refine lv_if_eq (tgt := 12) hx hb dX9_toss_7 (by decide) (fun c3 => ?_) (fun c3 => ?_)
  · have hF := ite_t c3 hF
    refine lv_aload_n hx hb dX9_toss_12 rfl (lv_at hl 1 rfl) ?_
    refine va_get (ci := 5) (C := RX9) (T := TX9) (N := 21) (v := .ref (gA G 70)) hx hb hts inX9 hown hK.1 hP 61 (at_5 rfl) rfl 15 (by decide) w1 (fun _ h9 => h9) rfl dX9_toss_13 ?_
    refine lv_iload_n hx hb dX9_toss_16 rfl (lv_at hl 2 rfl) ?_
    obtain ⟨b4, hF⟩ := ite_some hF
    refine va_iald hx hb hK.1 hP 70 0 (at_6 (rfl : kd 70 = 6) (rfl : ln 70 = 8)) rfl (inb_in b4) dX9_toss_17 ?_
    refine lv_istore_n (lv' := [(3, .int (σ 70 x1.toNatClampNeg)), (2, .int q1), (0, .ref (gA G 61)), (1, .int x1)]) hx hb dX9_toss_18 rfl hl (by decide) rfl (fun ls hl => ?_)
    refine lv_aload_n hx hb dX9_toss_19 rfl (lv_at hl 2 rfl) ?_
    refine va_get (ci := 5) (C := RX9) (T := TX9) (N := 21) (v := .ref (gA G 71)) hx hb hts inX9 hown hK.1 hP 61 (at_5 rfl) rfl 16 (by decide) w2 (fun _ h9 => h9) rfl dX9_toss_20 ?_
    refine lv_iload_n hx hb dX9_toss_23 rfl (lv_at hl 3 rfl) ?_
    obtain ⟨b5, hF⟩ := ite_some hF
    refine va_iald hx hb hK.1 hP 71 0 (at_6 (rfl : kd 71 = 6) (rfl : ln 71 = 8)) rfl (inb_in b5) dX9_toss_24 ?_
    refine lv_istore (lv' := [(4, .int (σ 71 x1.toNatClampNeg)), (3, .int (σ 70 x1.toNatClampNeg)), (2, .int q1), (0, .ref (gA G 61)), (1, .int x1)]) hx hb dX9_toss_25 hl (by decide) rfl (fun ls hl => ?_)
    refine lv_iload_n hx hb dX9_toss_27 rfl (lv_at hl 1 rfl) ?_
    refine lv_iconst (v := 4) hx hb dX9_toss_28 (by decide) ?_
    refine lv_icmp_eq (tgt := 43) hx hb dX9_toss_29 (by decide) (fun c6 => ?_) (fun c6 => ?_)
    · have hF := ite_t c6 hF
      refine lv_bipush (v := -15) hx hb dX9_toss_43 (by decide) ?_
      exact e_iP hx hb hr hP hS hlocks dX9_toss_45 hF
    · have hF := ite_f c6 hF
      refine lv_iload_n hx hb dX9_toss_32 rfl (lv_at hl 1 rfl) ?_
      refine lv_bipush (v := 6) hx hb dX9_toss_33 (by decide) ?_
      refine lv_icmp_eq (tgt := 43) hx hb dX9_toss_35 (by decide) (fun c7 => ?_) (fun c7 => ?_)
      · have hF := ite_t c7 hF
        refine lv_bipush (v := -15) hx hb dX9_toss_43 (by decide) ?_
        exact e_iP hx hb hr hP hS hlocks dX9_toss_45 hF
      · have hF := ite_f c7 hF
        refine lv_iload hx hb dX9_toss_38 (lv_at hl 0 rfl) ?_
        refine lv_if_ne (tgt := 46) hx hb dX9_toss_40 (by decide) (fun c8 => ?_) (fun c8 => ?_)
        · have hF := ite_f c8 hF
          refine lv_iload_n hx hb dX9_toss_46 rfl (lv_at hl 1 rfl) ?_
          refine lv_bipush (v := 7) hx hb dX9_toss_47 (by decide) ?_
          refine lv_icmp_ne (tgt := 65) hx hb dX9_toss_49 (by decide) (fun c9 => ?_) (fun c9 => ?_)
          · have hF := ite_f c9 hF
            refine lv_iload_n hx hb dX9_toss_65 rfl (lv_at hl 1 rfl) ?_
            refine lv_iconst (v := 1) hx hb dX9_toss_66 (by decide) ?_
            have J75 : ∀ (v4 : Int32) (H : Heap) (locs : List Loc) (hP : Pw G σ H) (hS : va_S (AG G) s.heap H locs) (ls : Array Slot) (hl : lv_has ls 5 [(0, .ref (gA G 61)), (1, .int x1), (4, .int v4)]) (hF : f_X9_toss_75 x1 σ v4 = some o), W p l e (headSpec wsX9_toss ({ frames := 3, cells := 0, slots := 0, locals := 63 })).room s m ([.ref (gA G 61), .int x1] : List Value).toArray below meth c H locs 0 0 (MQ below (qR G (some (.int o)) σ) ([.ref (gA G 61), .int x1] : List Value).toArray s 0 0 (AG G)) (F0 m 75 ls []) := by
              intro v4 H locs hP hS ls hl hF
              rw [f_X9_toss_75_e] at hF
              refine lv_bipush (v := 100) hx hb dX9_toss_75 (by decide) ?_
              refine lv_iload hx hb dX9_toss_77 (lv_at hl 2 rfl) ?_
              refine lv_iadd hx hb dX9_toss_79 ?_
              refine lv_goto (tgt := 85) hx hb dX9_toss_80 (by decide) ?_
              exact e_iP hx hb hr hP hS hlocks dX9_toss_85 hF
            refine lv_icmp_eq (tgt := 75) hx hb dX9_toss_67 (by decide) (fun c10 => ?_) (fun c10 => ?_)
            · have hF := ite_t c10 hF
              exact J75 (σ 71 x1.toNatClampNeg) _ _ hP hS ls (lv_sub hl [3, 4, 0] rfl) hF
            · have hF := ite_f c10 hF
              refine lv_iload_n hx hb dX9_toss_70 rfl (lv_at hl 1 rfl) ?_
              refine lv_iconst (v := 5) hx hb dX9_toss_71 (by decide) ?_
              refine lv_icmp_ne (tgt := 83) hx hb dX9_toss_72 (by decide) (fun c11 => ?_) (fun c11 => ?_)
              · have hF := ite_f c11 hF
                refine lv_iload hx hb dX9_toss_83 (lv_at hl 0 rfl) ?_
                exact e_iP hx hb hr hP hS hlocks dX9_toss_85 hF
              · have hF := ite_t c11 hF
                exact J75 (σ 71 x1.toNatClampNeg) _ _ hP hS ls (lv_sub hl [3, 4, 0] rfl) hF
          · have hF := ite_t c9 hF
            refine lv_sipush (v := 200) hx hb dX9_toss_52 (by decide) ?_
            refine lv_iload_n hx hb dX9_toss_55 rfl (lv_at hl 1 rfl) ?_
            refine lv_iload hx hb dX9_toss_56 (lv_at hl 0 rfl) ?_
            refine k_Sv (As := [.int (σ 70 x1.toNatClampNeg), .int (σ 71 x1.toNatClampNeg)]) (rest := [.int (200 : Int32)]) Z hK hP hS (t_X9_costBy l G hG (σ 70 x1.toNatClampNeg) (σ 71 x1.toNatClampNeg) σ) (va_cwS 2 hts gX9_toss_X9_costBy rfl rfl rfl (by decide +kernel) ⟨Nat.le_of_ble_eq_true rfl, Nat.le_of_ble_eq_true rfl⟩) rfl hl.1 rfl (Nat.le_of_ble_eq_true rfl) ⟨Nat.zero_le _, Nat.zero_le _⟩ dX9_toss_58 (fun H locs hP hS => ?_)
            refine lv_iadd hx hb dX9_toss_61 ?_
            refine lv_goto (tgt := 85) hx hb dX9_toss_62 (by decide) ?_
            exact e_iP hx hb hr hP hS hlocks dX9_toss_85 hF
        · have hF := ite_t c8 hF
          refine lv_bipush (v := -15) hx hb dX9_toss_43 (by decide) ?_
          exact e_iP hx hb hr hP hS hlocks dX9_toss_45 hF
  · have hF := ite_f c3 hF
    refine lv_iload_n hx hb dX9_toss_10 rfl (lv_at hl 0 rfl) ?_
    exact e_iP hx hb hr hP hS hlocks dX9_toss_11 hF
