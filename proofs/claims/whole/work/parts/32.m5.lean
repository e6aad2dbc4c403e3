def f_X8_keep (x1 : Int32) (x2 : Int32) (x3 : Int32) (x4 : Int32) (σ : St) : Option (Int32 × St) := (ob (f_X8_shelfAt x1 σ) (fun q1 => oc q1 ((some ((-1 : Int32), σ))) (fun i3 => (if (f_X8_isBelow x2 (2 : Int32)) = true then (if x2 = 0 then (ob (f_X5_empty i3 σ) (fun q10 => some ((0 : Int32), q10))) else (if (f_X8_isBelow x3 (8 : Int32)) = true then (if (f_X8_isBelow x4 (10 : Int32)) = true then (ob (f_X5_hold i3 x3 x4 σ) (fun q8 => some ((0 : Int32), q8))) else (some ((-1 : Int32), σ))) else (some ((-1 : Int32), σ)))) else (some ((-1 : Int32), σ))))))
set_option maxRecDepth 100000 in
set_option maxHeartbeats 4000000 in
theorem t_X8_keep (l : Launch) (G : GT) (hG : Dw G) (x1 : Int32) (x2 : Int32) (x3 : Int32) (x4 : Int32) (σ : St) (o : Int32 × St) (hF : f_X8_keep x1 x2 x3 x4 σ = some o) : Ct l G yX8_keep wsX8_keep 2 42 [.ref (gA G 0), .int x1, .int x2, .int x3, .int x4] σ (some (.int o.1)) o.2 := by
  refine Met.ofW (cc := cX8_keep) (maxL := 6) (ret := (some .int)) (by decide) rfl ?_
  intro p e s m args below meth c s₁ B hml hv
  obtain ⟨rfl, hP, hK⟩ := hv
  have hx := B.exec
  have hb := B.bytes
  have hr := B.returns
  have hts := atoms_spec (ws := wsX8_keep) B.pre
  have hown : s.vm.findClass RX8 = some m.cls := findClass_of_methodNamed B.named
  have hlocks := B.notSynchronized
  have Z : CallFix p m c cX8_keep 6 s _ wsX8_keep RX8 := ⟨hx, hb, hml, hown, hts⟩
  have hS : va_S (AG G) s.heap s.heap [] := va_S.rf
  have w1 := hts (.initialized RX5) (by decide +kernel)
  have w2n : va_Nw (.methodLinkNest "AlmanacOfTheYearGone" 297 ⟨"AlmanacOfTheYearGone$Shelf", "hold", "(II)V"⟩ "AlmanacOfTheYearGone") s := hK.2 _ (List.mem_of_getElem? (i := 117) rfl)
  have w2 := va_Nw.use (A := [.ref (gA G 0), .int x1, .int x2, .int x3, .int x4].toArray) rfl w2n
  have w3 := hts (.instanceMethod yX5_hold) (by decide +kernel)
  have w4 := hts (.selects RX5 yX5_hold yX5_hold) (by decide +kernel)
  have w5n : va_Nw (.methodLinkNest "AlmanacOfTheYearGone" 294 ⟨"AlmanacOfTheYearGone$Shelf", "empty", "()V"⟩ "AlmanacOfTheYearGone") s := hK.2 _ (List.mem_of_getElem? (i := 116) rfl)
  have w5 := va_Nw.use (A := [.ref (gA G 0), .int x1, .int x2, .int x3, .int x4].toArray) rfl w5n
  have w6 := hts (.instanceMethod yX5_empty) (by decide +kernel)
  have w7 := hts (.selects RX5 yX5_empty yX5_empty) (by decide +kernel)
  have hl := lv_entry ([.ref (gA G 0), .int x1, .int x2, .int x3, .int x4]) (n := 6) (Nat.le_of_ble_eq_true rfl)
  rw [lg_entry_eq]
  generalize (lg_sl ([.ref (gA G 0), .int x1, .int x2, .int x3, .int x4]) ++ List.replicate (6 - (lg_sl ([.ref (gA G 0), .int x1, .int x2, .int x3, .int x4])).length) Slot.unset).toArray = ls at hl ⊢
  have hl : lv_has ls 6 [(0, .ref (gA G 0)), (1, .int x1), (2, .int x2), (3, .int x3), (4, .int x4)] := hl
  unfold f_X8_keep at hF
  refine lv_aload_n hx hb dX8_keep_0 rfl (lv_at hl 0 rfl) ?_
  refine lv_iload_n hx hb dX8_keep_1 rfl (lv_at hl 1 rfl) ?_
  obtain ⟨q1, h2, hF⟩ := ob_some hF
  refine k_Vv (As := [.int x1]) (rest := []) Z hK hP hS (t_X8_shelfAt l G hG x1 σ _ h2) (cwV 1 hts gX8_keep_X8_shelfAt rfl rfl rfl (by decide +kernel) ⟨Nat.le_of_ble_eq_true rfl, Nat.le_of_ble_eq_true rfl⟩) (at_4 rfl) rfl rfl hl.1 rfl (Nat.le_of_ble_eq_true rfl) ⟨Nat.zero_le _, Nat.zero_le _⟩ dX8_keep_2 (fun H locs hP hS => ?_)
  rcases q1 with _ | i3
  · have hF := oc_n hF
    refine W.eq (g2 := F0 m 5 ls [.null]) rfl ?_
    refine lv_astoreN (lv' := [(5, .null), (0, .ref (gA G 0)), (1, .int x1), (2, .int x2), (3, .int x3), (4, .int x4)]) hx hb dX8_keep_5 hl (by decide) rfl (fun ls hl => ?_)
    refine lv_aloadN hx hb dX8_keep_7 (lv_at hl 0 rfl) ?_
    refine lv_ifnullN (tgt := 20) hx hb dX8_keep_9 (by decide) ?_
    refine lv_iconst (v := -1) hx hb dX8_keep_20 (by decide) ?_
    exact e_iS hx hb hr hP hS hlocks dX8_keep_21 hF
  · have hF := oc_s hF
    have ki3 : kd i3 = 2 := q_X8_shelfAt  h2
    refine W.eq (g2 := F0 m 5 ls [.ref (gA G i3)]) rfl ?_
    refine lv_astore (lv' := [(5, .ref (gA G i3)), (0, .ref (gA G 0)), (1, .int x1), (2, .int x2), (3, .int x3), (4, .int x4)]) hx hb dX8_keep_5 hl (by decide) rfl (fun ls hl => ?_)
    refine lv_aload hx hb dX8_keep_7 (lv_at hl 0 rfl) ?_
    refine lv_ifnull hx hb dX8_keep_9 ?_
    refine lv_iload_n hx hb dX8_keep_12 rfl (lv_at hl 3 rfl) ?_
    refine lv_iconst (v := 2) hx hb dX8_keep_13 (by decide) ?_
    refine k_Sv (As := [.int x2, .int (2 : Int32)]) (rest := []) Z hK hP hS (t_X8_isBelow l G hG x2 (2 : Int32) σ) (va_cwS 2 hts gX8_keep_X8_isBelow rfl rfl rfl (by decide +kernel) ⟨Nat.le_of_ble_eq_true rfl, Nat.le_of_ble_eq_true rfl⟩) rfl hl.1 rfl (Nat.le_of_ble_eq_true rfl) ⟨Nat.zero_le _, Nat.zero_le _⟩ dX8_keep_14 (fun H locs hP hS => ?_)
    refine lv_if_ne (tgt := 22) hx hb dX8_keep_17 (by decide) (fun c4 => ?_) (fun c4 => ?_)
    · have hF := ite_t (b2i_n0 c4) hF
      refine lv_iload_n hx hb dX8_keep_22 rfl (lv_at hl 3 rfl) ?_
      refine lv_if_ne (tgt := 33) hx hb dX8_keep_23 (by decide) (fun c5 => ?_) (fun c5 => ?_)
      · have hF := ite_f c5 hF
        refine lv_iload_n hx hb dX8_keep_33 rfl (lv_at hl 4 rfl) ?_
        refine lv_bipush (v := 8) hx hb dX8_keep_34 (by decide) ?_
        refine k_Sv (As := [.int x3, .int (8 : Int32)]) (rest := []) Z hK hP hS (t_X8_isBelow l G hG x3 (8 : Int32) σ) (va_cwS 2 hts gX8_keep_X8_isBelow rfl rfl rfl (by decide +kernel) ⟨Nat.le_of_ble_eq_true rfl, Nat.le_of_ble_eq_true rfl⟩) rfl hl.1 rfl (Nat.le_of_ble_eq_true rfl) ⟨Nat.zero_le _, Nat.zero_le _⟩ dX8_keep_36 (fun H locs hP hS => ?_)
        refine lv_if_eq (tgt := 52) hx hb dX8_keep_39 (by decide) (fun c6 => ?_) (fun c6 => ?_)
        · have hF := ite_f (b2i_e0 c6) hF
          refine lv_iconst (v := -1) hx hb dX8_keep_52 (by decide) ?_
          exact e_iS hx hb hr hP hS hlocks dX8_keep_53 hF
        · have hF := ite_t (b2i_n0 c6) hF
          refine lv_iload hx hb dX8_keep_42 (lv_at hl 5 rfl) ?_
          refine lv_bipush (v := 10) hx hb dX8_keep_44 (by decide) ?_
          refine k_Sv (As := [.int x4, .int (10 : Int32)]) (rest := []) Z hK hP hS (t_X8_isBelow l G hG x4 (10 : Int32) σ) (va_cwS 2 hts gX8_keep_X8_isBelow rfl rfl rfl (by decide +kernel) ⟨Nat.le_of_ble_eq_true rfl, Nat.le_of_ble_eq_true rfl⟩) rfl hl.1 rfl (Nat.le_of_ble_eq_true rfl) ⟨Nat.zero_le _, Nat.zero_le _⟩ dX8_keep_46 (fun H locs hP hS => ?_)
          refine lv_if_ne (tgt := 54) hx hb dX8_keep_49 (by decide) (fun c7 => ?_) (fun c7 => ?_)
          · have hF := ite_t (b2i_n0 c7) hF
            refine lv_aload hx hb dX8_keep_54 (lv_at hl 0 rfl) ?_
            refine lv_iload_n hx hb dX8_keep_56 rfl (lv_at hl 4 rfl) ?_
            refine lv_iload hx hb dX8_keep_57 (lv_at hl 5 rfl) ?_
            obtain ⟨q8, h9, hF⟩ := ob_some hF
            refine k_VN0 (As := [.int x3, .int x4]) (rest := []) Z hK hP hS (t_X5_hold l G hG i3 x3 x4 ki3 σ _ h9) ⟨va_cnB 2 hts gX8_keep_X5_hold_n297 rfl rfl rfl w2n w1 (by decide +kernel) ⟨Nat.le_of_ble_eq_true rfl, Nat.le_of_ble_eq_true rfl⟩, w3, w4⟩ (at_2 ki3) rfl rfl hl.1 rfl (Nat.le_of_ble_eq_true rfl) ⟨Nat.zero_le _, Nat.zero_le _⟩ dX8_keep_59 (fun H locs hP hS => ?_)
            refine lv_iconst (v := 0) hx hb dX8_keep_62 (by decide) ?_
            exact e_iS hx hb hr hP hS hlocks dX8_keep_63 hF
          · have hF := ite_f (b2i_e0 c7) hF
            refine lv_iconst (v := -1) hx hb dX8_keep_52 (by decide) ?_
            exact e_iS hx hb hr hP hS hlocks dX8_keep_53 hF
      · have hF := ite_t c5 hF
        refine lv_aload hx hb dX8_keep_26 (lv_at hl 0 rfl) ?_
        obtain ⟨q10, h11, hF⟩ := ob_some hF
        refine k_VN0 (As := []) (rest := []) Z hK hP hS (t_X5_empty l G hG i3 ki3 σ _ h11) ⟨va_cnB 0 hts gX8_keep_X5_empty_n294 rfl rfl rfl w5n w1 (by decide +kernel) ⟨Nat.le_of_ble_eq_true rfl, Nat.le_of_ble_eq_true rfl⟩, w6, w7⟩ (at_2 ki3) rfl rfl hl.1 rfl (Nat.le_of_ble_eq_true rfl) ⟨Nat.zero_le _, Nat.zero_le _⟩ dX8_keep_28 (fun H locs hP hS => ?_)
        refine lv_iconst (v := 0) hx hb dX8_keep_31 (by decide) ?_
        exact e_iS hx hb hr hP hS hlocks dX8_keep_32 hF
    · have hF := ite_f (b2i_e0 c4) hF
      refine lv_iconst (v := -1) hx hb dX8_keep_20 (by decide) ?_
      exact e_iS hx hb hr hP hS hlocks dX8_keep_21 hF
def f_X8_row (x1 : Int32) (x2 : Int32) (x3 : Int32) (σ : St) : Option (Int32 × St) := (ob (f_X8_shelfAt x1 σ) (fun q1 => oc q1 ((some ((-1 : Int32), σ))) (fun i3 => (if (f_X8_isBelow x2 (3 : Int32)) = true then (if x3 ≤ (100 : Int32) then (if 0 ≤ x3 then (ob (f_X5_lay i3 x2 x3 σ) (fun q7 => some ((0 : Int32), q7))) else (some ((-14 : Int32), σ))) else (some ((-1 : Int32), σ))) else (some ((-1 : Int32), σ))))))
set_option maxRecDepth 100000 in
set_option maxHeartbeats 4000000 in
theorem t_X8_row (l : Launch) (G : GT) (hG : Dw G) (x1 : Int32) (x2 : Int32) (x3 : Int32) (σ : St) (o : Int32 × St) (hF : f_X8_row x1 x2 x3 σ = some o) : Ct l G yX8_row wsX8_row 2 43 [.ref (gA G 0), .int x1, .int x2, .int x3] σ (some (.int o.1)) o.2 := by
  refine Met.ofW (cc := cX8_row) (maxL := 5) (ret := (some .int)) (by decide) rfl ?_
  intro p e s m args below meth c s₁ B hml hv
  obtain ⟨rfl, hP, hK⟩ := hv
  have hx := B.exec
  have hb := B.bytes
  have hr := B.returns
  have hts := atoms_spec (ws := wsX8_row) B.pre
  have hown : s.vm.findClass RX8 = some m.cls := findClass_of_methodNamed B.named
  have hlocks := B.notSynchronized
  have Z : CallFix p m c cX8_row 5 s _ wsX8_row RX8 := ⟨hx, hb, hml, hown, hts⟩
  have hS : va_S (AG G) s.heap s.heap [] := va_S.rf
  have w1 := hts (.initialized RX5) (by decide +kernel)
  have w2n : va_Nw (.methodLinkNest "AlmanacOfTheYearGone" 301 ⟨"AlmanacOfTheYearGone$Shelf", "lay", "(II)V"⟩ "AlmanacOfTheYearGone") s := hK.2 _ (List.mem_of_getElem? (i := 118) rfl)
  have w2 := va_Nw.use (A := [.ref (gA G 0), .int x1, .int x2, .int x3].toArray) rfl w2n
  have w3 := hts (.instanceMethod yX5_lay) (by decide +kernel)
  have w4 := hts (.selects RX5 yX5_lay yX5_lay) (by decide +kernel)
  have hl := lv_entry ([.ref (gA G 0), .int x1, .int x2, .int x3]) (n := 5) (Nat.le_of_ble_eq_true rfl)
  rw [lg_entry_eq]
  generalize (lg_sl ([.ref (gA G 0), .int x1, .int x2, .int x3]) ++ List.replicate (5 - (lg_sl ([.ref (gA G 0), .int x1, .int x2, .int x3])).length) Slot.unset).toArray = ls at hl ⊢
  have hl : lv_has ls 5 [(0, .ref (gA G 0)), (1, .int x1), (2, .int x2), (3, .int x3)] := hl
  unfold f_X8_row at hF
  refine lv_aload_n hx hb dX8_row_0 rfl (lv_at hl 0 rfl) ?_
  refine lv_iload_n hx hb dX8_row_1 rfl (lv_at hl 1 rfl) ?_
  obtain ⟨q1, h2, hF⟩ := ob_some hF
  refine k_Vv (As := [.int x1]) (rest := []) Z hK hP hS (t_X8_shelfAt l G hG x1 σ _ h2) (cwV 1 hts gX8_row_X8_shelfAt rfl rfl rfl (by decide +kernel) ⟨Nat.le_of_ble_eq_true rfl, Nat.le_of_ble_eq_true rfl⟩) (at_4 rfl) rfl rfl hl.1 rfl (Nat.le_of_ble_eq_true rfl) ⟨Nat.zero_le _, Nat.zero_le _⟩ dX8_row_2 (fun H locs hP hS => ?_)
  rcases q1 with _ | i3
  · have hF := oc_n hF
    refine W.eq (g2 := F0 m 5 ls [.null]) rfl ?_
    refine lv_astoreN (lv' := [(4, .null), (0, .ref (gA G 0)), (1, .int x1), (2, .int x2), (3, .int x3)]) hx hb dX8_row_5 hl (by decide) rfl (fun ls hl => ?_)
    refine lv_aloadN hx hb dX8_row_7 (lv_at hl 0 rfl) ?_
    refine lv_ifnullN (tgt := 26) hx hb dX8_row_9 (by decide) ?_
    refine lv_iconst (v := -1) hx hb dX8_row_26 (by decide) ?_
    exact e_iS hx hb hr hP hS hlocks dX8_row_27 hF
  · have hF := oc_s hF
    have ki3 : kd i3 = 2 := q_X8_shelfAt  h2
    refine W.eq (g2 := F0 m 5 ls [.ref (gA G i3)]) rfl ?_
    refine lv_astore (lv' := [(4, .ref (gA G i3)), (0, .ref (gA G 0)), (1, .int x1), (2, .int x2), (3, .int x3)]) hx hb dX8_row_5 hl (by decide) rfl (fun ls hl => ?_)
    refine lv_aload hx hb dX8_row_7 (lv_at hl 0 rfl) ?_
    refine lv_ifnull hx hb dX8_row_9 ?_
    refine lv_iload_n hx hb dX8_row_12 rfl (lv_at hl 3 rfl) ?_
    refine lv_iconst (v := 3) hx hb dX8_row_13 (by decide) ?_
    refine k_Sv (As := [.int x2, .int (3 : Int32)]) (rest := []) Z hK hP hS (t_X8_isBelow l G hG x2 (3 : Int32) σ) (va_cwS 2 hts gX8_row_X8_isBelow rfl rfl rfl (by decide +kernel) ⟨Nat.le_of_ble_eq_true rfl, Nat.le_of_ble_eq_true rfl⟩) rfl hl.1 rfl (Nat.le_of_ble_eq_true rfl) ⟨Nat.zero_le _, Nat.zero_le _⟩ dX8_row_14 (fun H locs hP hS => ?_)
    refine lv_if_eq (tgt := 26) hx hb dX8_row_17 (by decide) (fun c4 => ?_) (fun c4 => ?_)
    · have hF := ite_f (b2i_e0 c4) hF
      refine lv_iconst (v := -1) hx hb dX8_row_26 (by decide) ?_
      exact e_iS hx hb hr hP hS hlocks dX8_row_27 hF
    · have hF := ite_t (b2i_n0 c4) hF
      refine lv_iload_n hx hb dX8_row_20 rfl (lv_at hl 4 rfl) ?_
      refine lv_bipush (v := 100) hx hb dX8_row_21 (by decide) ?_
      refine lv_icmp_le (tgt := 28) hx hb dX8_row_23 (by decide) (fun c5 => ?_) (fun c5 => ?_)
      · have hF := ite_t c5 hF
        refine lv_iload_n hx hb dX8_row_28 rfl (lv_at hl 4 rfl) ?_
        refine lv_if_ge (tgt := 35) hx hb dX8_row_29 (by decide) (fun c6 => ?_) (fun c6 => ?_)
        · have hF := ite_t c6 hF
          refine lv_aload hx hb dX8_row_35 (lv_at hl 0 rfl) ?_
          refine lv_iload_n hx hb dX8_row_37 rfl (lv_at hl 3 rfl) ?_
          refine lv_iload_n hx hb dX8_row_38 rfl (lv_at hl 4 rfl) ?_
          obtain ⟨q7, h8, hF⟩ := ob_some hF
          refine k_VN0 (As := [.int x2, .int x3]) (rest := []) Z hK hP hS (t_X5_lay l G hG i3 x2 x3 ki3 σ _ h8) ⟨va_cnB 2 hts gX8_row_X5_lay_n301 rfl rfl rfl w2n w1 (by decide +kernel) ⟨Nat.le_of_ble_eq_true rfl, Nat.le_of_ble_eq_true rfl⟩, w3, w4⟩ (at_2 ki3) rfl rfl hl.1 rfl (Nat.le_of_ble_eq_true rfl) ⟨Nat.zero_le _, Nat.zero_le _⟩ dX8_row_39 (fun H locs hP hS => ?_)
          refine lv_iconst (v := 0) hx hb dX8_row_42 (by decide) ?_
          exact e_iS hx hb hr hP hS hlocks dX8_row_43 hF
        · have hF := ite_f c6 hF
          refine lv_bipush (v := -14) hx hb dX8_row_32 (by decide) ?_
          exact e_iS hx hb hr hP hS hlocks dX8_row_34 hF
      · have hF := ite_f c5 hF
        refine lv_iconst (v := -1) hx hb dX8_row_26 (by decide) ?_
        exact e_iS hx hb hr hP hS hlocks dX8_row_27 hF
def f_X8_put (x1 : Int32) (x2 : Int32) (x3 : Int32) (σ : St) : Option (Int32 × St) := (ob (f_X8_shelfAt x1 σ) (fun q1 => oc q1 ((some (f_X8_rowRefusal none σ, σ))) (fun i3 => (if (f_X8_rowRefusal (some i3) σ) = 0 then (if (f_X8_isBelow x2 (σ i3 1)) = true then (ob (f_X5_set i3 x2 x3 σ) (fun q6 => some ((0 : Int32), q6))) else (some ((-13 : Int32), σ))) else (some (f_X8_rowRefusal (some i3) σ, σ))))))
set_option maxRecDepth 100000 in
set_option maxHeartbeats 4000000 in
theorem t_X8_put (l : Launch) (G : GT) (hG : Dw G) (x1 : Int32) (x2 : Int32) (x3 : Int32) (σ : St) (o : Int32 × St) (hF : f_X8_put x1 x2 x3 σ = some o) : Ct l G yX8_put wsX8_put 3 61 [.ref (gA G 0), .int x1, .int x2, .int x3] σ (some (.int o.1)) o.2 := by
  refine Met.ofW (cc := cX8_put) (maxL := 6) (ret := (some .int)) (by decide) rfl ?_
  intro p e s m args below meth c s₁ B hml hv
  obtain ⟨rfl, hP, hK⟩ := hv
  have hx := B.exec
  have hb := B.bytes
  have hr := B.returns
  have hts := atoms_spec (ws := wsX8_put) B.pre
  have hown : s.vm.findClass RX8 = some m.cls := findClass_of_methodNamed B.named
  have hlocks := B.notSynchronized
  have Z : CallFix p m c cX8_put 6 s _ wsX8_put RX8 := ⟨hx, hb, hml, hown, hts⟩
  have hS : va_S (AG G) s.heap s.heap [] := va_S.rf
  have inX5 : ∀ w ∈ u_ws RX5 TX5 5, w ∈ wsX8_put := by decide +kernel
  have w1n : va_Nw (.fieldLinkNest "AlmanacOfTheYearGone" 273 "AlmanacOfTheYearGone$Shelf" "length" "I" "AlmanacOfTheYearGone") s := hK.2 _ (List.mem_of_getElem? (i := 4) rfl)
  have w1 := va_Nw.use (A := [.ref (gA G 0), .int x1, .int x2, .int x3].toArray) rfl w1n
  have w2 := hts (.initialized RX5) (by decide +kernel)
  have w3n : va_Nw (.methodLinkNest "AlmanacOfTheYearGone" 304 ⟨"AlmanacOfTheYearGone$Shelf", "set", "(II)V"⟩ "AlmanacOfTheYearGone") s := hK.2 _ (List.mem_of_getElem? (i := 119) rfl)
  have w3 := va_Nw.use (A := [.ref (gA G 0), .int x1, .int x2, .int x3].toArray) rfl w3n
  have w4 := hts (.instanceMethod yX5_set) (by decide +kernel)
  have w5 := hts (.selects RX5 yX5_set yX5_set) (by decide +kernel)
  have hl := lv_entry ([.ref (gA G 0), .int x1, .int x2, .int x3]) (n := 6) (Nat.le_of_ble_eq_true rfl)
  rw [lg_entry_eq]
  generalize (lg_sl ([.ref (gA G 0), .int x1, .int x2, .int x3]) ++ List.replicate (6 - (lg_sl ([.ref (gA G 0), .int x1, .int x2, .int x3])).length) Slot.unset).toArray = ls at hl ⊢
  have hl : lv_has ls 6 [(0, .ref (gA G 0)), (1, .int x1), (2, .int x2), (3, .int x3)] := hl
  unfold f_X8_put at hF
  refine lv_aload_n hx hb dX8_put_0 rfl (lv_at hl 0 rfl) ?_
  refine lv_iload_n hx hb dX8_put_1 rfl (lv_at hl 1 rfl) ?_
  obtain ⟨q1, h2, hF⟩ := ob_some hF
  refine k_Vv (As := [.int x1]) (rest := []) Z hK hP hS (t_X8_shelfAt l G hG x1 σ _ h2) (cwV 1 hts gX8_put_X8_shelfAt rfl rfl rfl (by decide +kernel) ⟨Nat.le_of_ble_eq_true rfl, Nat.le_of_ble_eq_true rfl⟩) (at_4 rfl) rfl rfl hl.1 rfl (Nat.le_of_ble_eq_true rfl) ⟨Nat.zero_le _, Nat.zero_le _⟩ dX8_put_2 (fun H locs hP hS => ?_)
  rcases q1 with _ | i3
  · have hF := oc_n hF
    refine W.eq (g2 := F0 m 5 ls [.null]) rfl ?_
    refine lv_astoreN (lv' := [(4, .null), (0, .ref (gA G 0)), (1, .int x1), (2, .int x2), (3, .int x3)]) hx hb dX8_put_5 hl (by decide) rfl (fun ls hl => ?_)
    refine lv_aloadN hx hb dX8_put_7 (lv_at hl 0 rfl) ?_
    refine k_Sv (As := [.null]) (rest := []) Z hK hP hS (t_X8_rowRefusal l G hG none (fun _ h9 => by cases h9) σ) (va_cwS 1 hts gX8_put_X8_rowRefusal rfl rfl rfl (by decide +kernel) ⟨Nat.le_of_ble_eq_true rfl, Nat.le_of_ble_eq_true rfl⟩) rfl hl.1 rfl (Nat.le_of_ble_eq_true rfl) ⟨Nat.zero_le _, Nat.zero_le _⟩ dX8_put_9 (fun H locs hP hS => ?_)
    refine lv_istore (lv' := [(5, .int (f_X8_rowRefusal none σ)), (4, .null), (0, .ref (gA G 0)), (1, .int x1), (2, .int x2), (3, .int x3)]) hx hb dX8_put_12 hl (by decide) rfl (fun ls hl => ?_)
    refine lv_aloadN hx hb dX8_put_14 (lv_at hl 1 rfl) ?_
    refine lv_ifnullN (tgt := 24) hx hb dX8_put_16 (by decide) ?_
    refine lv_iload hx hb dX8_put_24 (lv_at hl 0 rfl) ?_
    exact e_iS hx hb hr hP hS hlocks dX8_put_26 hF
  · have hF := oc_s hF
    have ki3 : kd i3 = 2 := q_X8_shelfAt  h2
    refine W.eq (g2 := F0 m 5 ls [.ref (gA G i3)]) rfl ?_
    refine lv_astore (lv' := [(4, .ref (gA G i3)), (0, .ref (gA G 0)), (1, .int x1), (2, .int x2), (3, .int x3)]) hx hb dX8_put_5 hl (by decide) rfl (fun ls hl => ?_)
    refine lv_aload hx hb dX8_put_7 (lv_at hl 0 rfl) ?_
    refine k_Sv (As := [.ref (gA G i3)]) (rest := []) Z hK hP hS (t_X8_rowRefusal l G hG (some i3) (fun _ h9 => by cases h9; exact ki3) σ) (va_cwS 1 hts gX8_put_X8_rowRefusal rfl rfl rfl (by decide +kernel) ⟨Nat.le_of_ble_eq_true rfl, Nat.le_of_ble_eq_true rfl⟩) rfl hl.1 rfl (Nat.le_of_ble_eq_true rfl) ⟨Nat.zero_le _, Nat.zero_le _⟩ dX8_put_9 (fun H locs hP hS => ?_)
    refine lv_istore (lv' := [(5, .int (f_X8_rowRefusal (some i3) σ)), (4, .ref (gA G i3)), (0, .ref (gA G 0)), (1, .int x1), (2, .int x2), (3, .int x3)]) hx hb dX8_put_12 hl (by decide) rfl (fun ls hl => ?_)
    refine lv_aload hx hb dX8_put_14 (lv_at hl 1 rfl) ?_
    refine lv_ifnull hx hb dX8_put_16 ?_
    refine lv_iload hx hb dX8_put_19 (lv_at hl 0 rfl) ?_
    refine lv_if_eq (tgt := 27) hx hb dX8_put_21 (by decide) (fun c4 => ?_) (fun c4 => ?_)
    · have hF := ite_t c4 hF
      refine lv_iload_n hx hb dX8_put_27 rfl (lv_at hl 4 rfl) ?_
      refine lv_aload hx hb dX8_put_28 (lv_at hl 1 rfl) ?_
      refine va_getN (ci := 2) (C := RX5) (T := TX5) (N := 5) (v := .int (σ i3 1)) hx hb hts inX5 hown hK.1 hP i3 (at_2 ki3) rfl 1 (by decide) w1 (fun _ h9 => h9) rfl dX8_put_30 ?_
      refine k_Sv (As := [.int x2, .int (σ i3 1)]) (rest := []) Z hK hP hS (t_X8_isBelow l G hG x2 (σ i3 1) σ) (va_cwS 2 hts gX8_put_X8_isBelow rfl rfl rfl (by decide +kernel) ⟨Nat.le_of_ble_eq_true rfl, Nat.le_of_ble_eq_true rfl⟩) rfl hl.1 rfl (Nat.le_of_ble_eq_true rfl) ⟨Nat.zero_le _, Nat.zero_le _⟩ dX8_put_33 (fun H locs hP hS => ?_)
      refine lv_if_ne (tgt := 42) hx hb dX8_put_36 (by decide) (fun c5 => ?_) (fun c5 => ?_)
      · have hF := ite_t (b2i_n0 c5) hF
        refine lv_aload hx hb dX8_put_42 (lv_at hl 1 rfl) ?_
        refine lv_iload_n hx hb dX8_put_44 rfl (lv_at hl 4 rfl) ?_
        refine lv_iload_n hx hb dX8_put_45 rfl (lv_at hl 5 rfl) ?_
        obtain ⟨q6, h7, hF⟩ := ob_some hF
        refine k_VN0 (As := [.int x2, .int x3]) (rest := []) Z hK hP hS (t_X5_set l G hG i3 x2 x3 ki3 σ _ h7) ⟨va_cnB 2 hts gX8_put_X5_set_n304 rfl rfl rfl w3n w2 (by decide +kernel) ⟨Nat.le_of_ble_eq_true rfl, Nat.le_of_ble_eq_true rfl⟩, w4, w5⟩ (at_2 ki3) rfl rfl hl.1 rfl (Nat.le_of_ble_eq_true rfl) ⟨Nat.zero_le _, Nat.zero_le _⟩ dX8_put_46 (fun H locs hP hS => ?_)
        refine lv_iconst (v := 0) hx hb dX8_put_49 (by decide) ?_
        exact e_iS hx hb hr hP hS hlocks dX8_put_50 hF
      · have hF := ite_f (b2i_e0 c5) hF
        refine lv_bipush (v := -13) hx hb dX8_put_39 (by decide) ?_
        exact e_iS hx hb hr hP hS hlocks dX8_put_41 hF
    · have hF := ite_f c4 hF
      refine lv_iload hx hb dX8_put_24 (lv_at hl 0 rfl) ?_
      exact e_iS hx hb hr hP hS hlocks dX8_put_26 hF
def f_X8_copy (x1 : Int32) (x2 : Int32) (x3 : Int32) (x4 : Int32) (x5 : Int32) (σ : St) : Option (Int32 × St) := (ob (f_X8_shelfAt x1 σ) (fun q1 => oc q1 ((ob (f_X8_shelfAt x3 σ) (fun q4 => oc q4 ((some ((-1 : Int32), σ))) (fun i6 => (some ((-1 : Int32), σ)))))) (fun i3 => (ob (f_X8_shelfAt x3 σ) (fun q7 => oc q7 ((some ((-1 : Int32), σ))) (fun i9 => (if (f_X5_isEmpty i3 σ) = true then (some ((-11 : Int32), σ)) else (if (f_X5_isEmpty i9 σ) = true then (some ((-11 : Int32), σ)) else (if (f_X5_hasRow i3 σ) = true then (if (σ i3 2) = (σ i9 2) then (if (f_X5_hasStretch i3 x2 x5 σ) = true then (if (f_X5_hasStretch i9 x4 x5 σ) = true then (if (¬ x2 < 0) ∧ (¬ x4 < 0) ∧ (¬ x5 < 0) ∧ x2.toNatClampNeg + x5.toNatClampNeg ≤ 100 ∧ x4.toNatClampNeg + x5.toNatClampNeg ≤ 100 then some (x5, upc σ (i9 + 1) (va_cpy (σ (i3 + 1)) (σ (i9 + 1)) x2.toNatClampNeg x4.toNatClampNeg x5.toNatClampNeg)) else none) else (some ((-13 : Int32), σ))) else (some ((-13 : Int32), σ))) else (some ((-12 : Int32), σ))) else (some ((-12 : Int32), σ)))))))))))
set_option maxRecDepth 100000 in
set_option maxHeartbeats 4000000 in
theorem t_X8_copy (l : Launch) (G : GT) (hG : Dw G) (x1 : Int32) (x2 : Int32) (x3 : Int32) (x4 : Int32) (x5 : Int32) (σ : St) (o : Int32 × St) (hF : f_X8_copy x1 x2 x3 x4 x5 σ = some o) : Ct l G yX8_copy wsX8_copy 1 60 [.ref (gA G 0), .int x1, .int x2, .int x3, .int x4, .int x5] σ (some (.int o.1)) o.2 := by
  refine Met.ofW (cc := cX8_copy) (maxL := 8) (ret := (some .int)) (by decide) rfl ?_
  intro p e s m args below meth c s₁ B hml hv
  obtain ⟨rfl, hP, hK⟩ := hv
  have hx := B.exec
  have hb := B.bytes
  have hr := B.returns
  have hts := atoms_spec (ws := wsX8_copy) B.pre
  have hown : s.vm.findClass RX8 = some m.cls := findClass_of_methodNamed B.named
  have hlocks := B.notSynchronized
  have Z : CallFix p m c cX8_copy 8 s _ wsX8_copy RX8 := ⟨hx, hb, hml, hown, hts⟩
  have hS : va_S (AG G) s.heap s.heap [] := va_S.rf
  have inX5 : ∀ w ∈ u_ws RX5 TX5 5, w ∈ wsX8_copy := by decide +kernel
  have w1 := hts (.initialized RX5) (by decide +kernel)
  have w2n : va_Nw (.methodLinkNest "AlmanacOfTheYearGone" 325 ⟨"AlmanacOfTheYearGone$Shelf", "isEmpty", "()Z"⟩ "AlmanacOfTheYearGone") s := hK.2 _ (List.mem_of_getElem? (i := 38) rfl)
  have w2 := va_Nw.use (A := [.ref (gA G 0), .int x1, .int x2, .int x3, .int x4, .int x5].toArray) rfl w2n
  have w3 := hts (.instanceMethod yX5_isEmpty) (by decide +kernel)
  have w4 := hts (.selects RX5 yX5_isEmpty yX5_isEmpty) (by decide +kernel)
  have w5n : va_Nw (.methodLinkNest "AlmanacOfTheYearGone" 314 ⟨"AlmanacOfTheYearGone$Shelf", "hasRow", "()Z"⟩ "AlmanacOfTheYearGone") s := hK.2 _ (List.mem_of_getElem? (i := 39) rfl)
  have w5 := va_Nw.use (A := [.ref (gA G 0), .int x1, .int x2, .int x3, .int x4, .int x5].toArray) rfl w5n
  have w6 := hts (.instanceMethod yX5_hasRow) (by decide +kernel)
  have w7 := hts (.selects RX5 yX5_hasRow yX5_hasRow) (by decide +kernel)
  have w8n : va_Nw (.fieldLinkNest "AlmanacOfTheYearGone" 58 "AlmanacOfTheYearGone$Shelf" "sort" "I" "AlmanacOfTheYearGone") s := hK.2 _ (List.mem_of_getElem? (i := 5) rfl)
  have w8 := va_Nw.use (A := [.ref (gA G 0), .int x1, .int x2, .int x3, .int x4, .int x5].toArray) rfl w8n
  have w9n : va_Nw (.methodLinkNest "AlmanacOfTheYearGone" 328 ⟨"AlmanacOfTheYearGone$Shelf", "hasStretch", "(II)Z"⟩ "AlmanacOfTheYearGone") s := hK.2 _ (List.mem_of_getElem? (i := 120) rfl)
  have w9 := va_Nw.use (A := [.ref (gA G 0), .int x1, .int x2, .int x3, .int x4, .int x5].toArray) rfl w9n
  have w10 := hts (.instanceMethod yX5_hasStretch) (by decide +kernel)
  have w11 := hts (.selects RX5 yX5_hasStretch yX5_hasStretch) (by decide +kernel)
  have w12n : va_Nw (.fieldLinkNest "AlmanacOfTheYearGone" 331 "AlmanacOfTheYearGone$Shelf" "cells" "[I" "AlmanacOfTheYearGone") s := hK.2 _ (List.mem_of_getElem? (i := 0) rfl)
  have w12 := va_Nw.use (A := [.ref (gA G 0), .int x1, .int x2, .int x3, .int x4, .int x5].toArray) rfl w12n
  have w13 := hts (.methodLink RX8 335 arraycopyName) (by decide +kernel)
  have w14 := hts (.native arraycopyName) (by decide +kernel)
  have w15 := hts (.static arraycopyName) (by decide +kernel)
  have w16 := hts (.initialized "java/lang/System") (by decide +kernel)
  have hl := lv_entry ([.ref (gA G 0), .int x1, .int x2, .int x3, .int x4, .int x5]) (n := 8) (Nat.le_of_ble_eq_true rfl)
  rw [lg_entry_eq]
  generalize (lg_sl ([.ref (gA G 0), .int x1, .int x2, .int x3, .int x4, .int x5]) ++ List.replicate (8 - (lg_sl ([.ref (gA G 0), .int x1, .int x2, .int x3, .int x4, .int x5])).length) Slot.unset).toArray = ls at hl ⊢
  have hl : lv_has ls 8 [(0, .ref (gA G 0)), (1, .int x1), (2, .int x2), (3, .int x3), (4, .int x4), (5, .int x5)] := hl
  unfold f_X8_copy at hF
  refine lv_aload_n hx hb dX8_copy_0 rfl (lv_at hl 0 rfl) ?_
  refine lv_iload_n hx hb dX8_copy_1 rfl (lv_at hl 1 rfl) ?_
  obtain ⟨q1, h2, hF⟩ := ob_some hF
  refine k_Vv (As := [.int x1]) (rest := []) Z hK hP hS (t_X8_shelfAt l G hG x1 σ _ h2) (cwV 1 hts gX8_copy_X8_shelfAt rfl rfl rfl (by decide +kernel) ⟨Nat.le_of_ble_eq_true rfl, Nat.le_of_ble_eq_true rfl⟩) (at_4 rfl) rfl rfl hl.1 rfl (Nat.le_of_ble_eq_true rfl) ⟨Nat.zero_le _, Nat.zero_le _⟩ dX8_copy_2 (fun H locs hP hS => ?_)
  rcases q1 with _ | i3
  · have hF := oc_n hF
    refine W.eq (g2 := F0 m 5 ls [.null]) rfl ?_
    refine lv_astoreN (lv' := [(6, .null), (0, .ref (gA G 0)), (1, .int x1), (2, .int x2), (3, .int x3), (4, .int x4), (5, .int x5)]) hx hb dX8_copy_5 hl (by decide) rfl (fun ls hl => ?_)
    refine lv_aload_n hx hb dX8_copy_7 rfl (lv_at hl 1 rfl) ?_
    refine lv_iload_n hx hb dX8_copy_8 rfl (lv_at hl 4 rfl) ?_
    obtain ⟨q4, h5, hF⟩ := ob_some hF
    refine k_Vv (As := [.int x3]) (rest := []) Z hK hP hS (t_X8_shelfAt l G hG x3 σ _ h5) (cwV 1 hts gX8_copy_X8_shelfAt rfl rfl rfl (by decide +kernel) ⟨Nat.le_of_ble_eq_true rfl, Nat.le_of_ble_eq_true rfl⟩) (at_4 rfl) rfl rfl hl.1 rfl (Nat.le_of_ble_eq_true rfl) ⟨Nat.zero_le _, Nat.zero_le _⟩ dX8_copy_9 (fun H locs hP hS => ?_)
    rcases q4 with _ | i6
    · have hF := oc_n hF
      refine W.eq (g2 := F0 m 12 ls [.null]) rfl ?_
      refine lv_astoreN (lv' := [(7, .null), (6, .null), (0, .ref (gA G 0)), (1, .int x1), (2, .int x2), (3, .int x3), (4, .int x4), (5, .int x5)]) hx hb dX8_copy_12 hl (by decide) rfl (fun ls hl => ?_)
      refine lv_aloadN hx hb dX8_copy_14 (lv_at hl 1 rfl) ?_
      refine lv_ifnullN (tgt := 24) hx hb dX8_copy_16 (by decide) ?_
      refine lv_iconst (v := -1) hx hb dX8_copy_24 (by decide) ?_
      exact e_iS hx hb hr hP hS hlocks dX8_copy_25 hF
    · have hF := oc_s hF
      have ki6 : kd i6 = 2 := q_X8_shelfAt  h5
      refine W.eq (g2 := F0 m 12 ls [.ref (gA G i6)]) rfl ?_
      refine lv_astore (lv' := [(7, .ref (gA G i6)), (6, .null), (0, .ref (gA G 0)), (1, .int x1), (2, .int x2), (3, .int x3), (4, .int x4), (5, .int x5)]) hx hb dX8_copy_12 hl (by decide) rfl (fun ls hl => ?_)
      refine lv_aloadN hx hb dX8_copy_14 (lv_at hl 1 rfl) ?_
      refine lv_ifnullN (tgt := 24) hx hb dX8_copy_16 (by decide) ?_
      refine lv_iconst (v := -1) hx hb dX8_copy_24 (by decide) ?_
      exact e_iS hx hb hr hP hS hlocks dX8_copy_25 hF
  · have hF := oc_s hF
    have ki3 : kd i3 = 2 := q_X8_shelfAt  h2
    refine W.eq (g2 := F0 m 5 ls [.ref (gA G i3)]) rfl ?_
    refine lv_astore (lv' := [(6, .ref (gA G i3)), (0, .ref (gA G 0)), (1, .int x1), (2, .int x2), (3, .int x3), (4, .int x4), (5, .int x5)]) hx hb dX8_copy_5 hl (by decide) rfl (fun ls hl => ?_)
    refine lv_aload_n hx hb dX8_copy_7 rfl (lv_at hl 1 rfl) ?_
    refine lv_iload_n hx hb dX8_copy_8 rfl (lv_at hl 4 rfl) ?_
    obtain ⟨q7, h8, hF⟩ := ob_some hF
    refine k_Vv (As := [.int x3]) (rest := []) Z hK hP hS (t_X8_shelfAt l G hG x3 σ _ h8) (cwV 1 hts gX8_copy_X8_shelfAt rfl rfl rfl (by decide +kernel) ⟨Nat.le_of_ble_eq_true rfl, Nat.le_of_ble_eq_true rfl⟩) (at_4 rfl) rfl rfl hl.1 rfl (Nat.le_of_ble_eq_true rfl) ⟨Nat.zero_le _, Nat.zero_le _⟩ dX8_copy_9 (fun H locs hP hS => ?_)
    rcases q7 with _ | i9
    · have hF := oc_n hF
      refine W.eq (g2 := F0 m 12 ls [.null]) rfl ?_
      refine lv_astoreN (lv' := [(7, .null), (6, .ref (gA G i3)), (0, .ref (gA G 0)), (1, .int x1), (2, .int x2), (3, .int x3), (4, .int x4), (5, .int x5)]) hx hb dX8_copy_12 hl (by decide) rfl (fun ls hl => ?_)
      refine lv_aload hx hb dX8_copy_14 (lv_at hl 1 rfl) ?_
      refine lv_ifnull hx hb dX8_copy_16 ?_
      refine lv_aloadN hx hb dX8_copy_19 (lv_at hl 0 rfl) ?_
      refine lv_ifnonnullN hx hb dX8_copy_21 ?_
      refine lv_iconst (v := -1) hx hb dX8_copy_24 (by decide) ?_
      exact e_iS hx hb hr hP hS hlocks dX8_copy_25 hF
    · have hF := oc_s hF
      have ki9 : kd i9 = 2 := q_X8_shelfAt  h8
      refine W.eq (g2 := F0 m 12 ls [.ref (gA G i9)]) rfl ?_
      refine lv_astore (lv' := [(7, .ref (gA G i9)), (6, .ref (gA G i3)), (0, .ref (gA G 0)), (1, .int x1), (2, .int x2), (3, .int x3), (4, .int x4), (5, .int x5)]) hx hb dX8_copy_12 hl (by decide) rfl (fun ls hl => ?_)
      refine lv_aload hx hb dX8_copy_14 (lv_at hl 1 rfl) ?_
      refine lv_ifnull hx hb dX8_copy_16 ?_
      refine lv_aload hx hb dX8_copy_19 (lv_at hl 0 rfl) ?_
      refine lv_ifnonnull (tgt := 26) hx hb dX8_copy_21 (by decide) ?_
      refine lv_aload hx hb dX8_copy_26 (lv_at hl 1 rfl) ?_
      refine k_VNv (As := []) (rest := []) Z hK hP hS (t_X5_isEmpty l G hG i3 ki3 σ) ⟨va_cnB 0 hts gX8_copy_X5_isEmpty_n325 rfl rfl rfl w2n w1 (by decide +kernel) ⟨Nat.le_of_ble_eq_true rfl, Nat.le_of_ble_eq_true rfl⟩, w3, w4⟩ (at_2 ki3) rfl rfl hl.1 rfl (Nat.le_of_ble_eq_true rfl) ⟨Nat.zero_le _, Nat.zero_le _⟩ dX8_copy_28 (fun H locs hP hS => ?_)
      refine lv_if_ne (tgt := 42) hx hb dX8_copy_31 (by decide) (fun c10 => ?_) (fun c10 => ?_)
      · have hF := ite_t (b2i_n0 c10) hF
        refine lv_bipush (v := -11) hx hb dX8_copy_42 (by decide) ?_
        exact e_iS hx hb hr hP hS hlocks dX8_copy_44 hF
      · have hF := ite_f (b2i_e0 c10) hF
        refine lv_aload hx hb dX8_copy_34 (lv_at hl 0 rfl) ?_
        refine k_VNv (As := []) (rest := []) Z hK hP hS (t_X5_isEmpty l G hG i9 ki9 σ) ⟨va_cnB 0 hts gX8_copy_X5_isEmpty_n325 rfl rfl rfl w2n w1 (by decide +kernel) ⟨Nat.le_of_ble_eq_true rfl, Nat.le_of_ble_eq_true rfl⟩, w3, w4⟩ (at_2 ki9) rfl rfl hl.1 rfl (Nat.le_of_ble_eq_true rfl) ⟨Nat.zero_le _, Nat.zero_le _⟩ dX8_copy_36 (fun H locs hP hS => ?_)
        refine lv_if_eq (tgt := 45) hx hb dX8_copy_39 (by decide) (fun c11 => ?_) (fun c11 => ?_)
        · have hF := ite_f (b2i_e0 c11) hF
          refine lv_aload hx hb dX8_copy_45 (lv_at hl 1 rfl) ?_
          refine k_VNv (As := []) (rest := []) Z hK hP hS (t_X5_hasRow l G hG i3 ki3 σ) ⟨va_cnB 0 hts gX8_copy_X5_hasRow_n314 rfl rfl rfl w5n w1 (by decide +kernel) ⟨Nat.le_of_ble_eq_true rfl, Nat.le_of_ble_eq_true rfl⟩, w6, w7⟩ (at_2 ki3) rfl rfl hl.1 rfl (Nat.le_of_ble_eq_true rfl) ⟨Nat.zero_le _, Nat.zero_le _⟩ dX8_copy_47 (fun H locs hP hS => ?_)
          refine lv_if_eq (tgt := 66) hx hb dX8_copy_50 (by decide) (fun c12 => ?_) (fun c12 => ?_)
          · have hF := ite_f (b2i_e0 c12) hF
            refine lv_bipush (v := -12) hx hb dX8_copy_66 (by decide) ?_
            exact e_iS hx hb hr hP hS hlocks dX8_copy_68 hF
          · have hF := ite_t (b2i_n0 c12) hF
            refine lv_aload hx hb dX8_copy_53 (lv_at hl 1 rfl) ?_
            refine va_getN (ci := 2) (C := RX5) (T := TX5) (N := 5) (v := .int (σ i3 2)) hx hb hts inX5 hown hK.1 hP i3 (at_2 ki3) rfl 2 (by decide) w8 (fun _ h9 => h9) rfl dX8_copy_55 ?_
            refine lv_aload hx hb dX8_copy_58 (lv_at hl 0 rfl) ?_
            refine va_getN (ci := 2) (C := RX5) (T := TX5) (N := 5) (v := .int (σ i9 2)) hx hb hts inX5 hown hK.1 hP i9 (at_2 ki9) rfl 2 (by decide) w8 (fun _ h9 => h9) rfl dX8_copy_60 ?_
            refine lv_icmp_eq (tgt := 69) hx hb dX8_copy_63 (by decide) (fun c13 => ?_) (fun c13 => ?_)
            · have hF := ite_t c13 hF
              refine lv_aload hx hb dX8_copy_69 (lv_at hl 1 rfl) ?_
              refine lv_iload_n hx hb dX8_copy_71 rfl (lv_at hl 4 rfl) ?_
              refine lv_iload hx hb dX8_copy_72 (lv_at hl 7 rfl) ?_
              refine k_VNv (As := [.int x2, .int x5]) (rest := []) Z hK hP hS (t_X5_hasStretch l G hG i3 x2 x5 ki3 σ) ⟨va_cnB 2 hts gX8_copy_X5_hasStretch_n328 rfl rfl rfl w9n w1 (by decide +kernel) ⟨Nat.le_of_ble_eq_true rfl, Nat.le_of_ble_eq_true rfl⟩, w10, w11⟩ (at_2 ki3) rfl rfl hl.1 rfl (Nat.le_of_ble_eq_true rfl) ⟨Nat.zero_le _, Nat.zero_le _⟩ dX8_copy_74 (fun H locs hP hS => ?_)
              refine lv_if_eq (tgt := 92) hx hb dX8_copy_77 (by decide) (fun c14 => ?_) (fun c14 => ?_)
              · have hF := ite_f (b2i_e0 c14) hF
                refine lv_bipush (v := -13) hx hb dX8_copy_92 (by decide) ?_
                exact e_iS hx hb hr hP hS hlocks dX8_copy_94 hF
              · have hF := ite_t (b2i_n0 c14) hF
                refine lv_aload hx hb dX8_copy_80 (lv_at hl 0 rfl) ?_
                refine lv_iload hx hb dX8_copy_82 (lv_at hl 6 rfl) ?_
                refine lv_iload hx hb dX8_copy_84 (lv_at hl 7 rfl) ?_
                refine k_VNv (As := [.int x4, .int x5]) (rest := []) Z hK hP hS (t_X5_hasStretch l G hG i9 x4 x5 ki9 σ) ⟨va_cnB 2 hts gX8_copy_X5_hasStretch_n328 rfl rfl rfl w9n w1 (by decide +kernel) ⟨Nat.le_of_ble_eq_true rfl, Nat.le_of_ble_eq_true rfl⟩, w10, w11⟩ (at_2 ki9) rfl rfl hl.1 rfl (Nat.le_of_ble_eq_true rfl) ⟨Nat.zero_le _, Nat.zero_le _⟩ dX8_copy_86 (fun H locs hP hS => ?_)
                refine lv_if_ne (tgt := 95) hx hb dX8_copy_89 (by decide) (fun c15 => ?_) (fun c15 => ?_)
                · have hF := ite_t (b2i_n0 c15) hF
                  refine lv_aload hx hb dX8_copy_95 (lv_at hl 1 rfl) ?_
                  refine va_getN (ci := 2) (C := RX5) (T := TX5) (N := 5) (v := .ref (gA G (i3 + 1))) hx hb hts inX5 hown hK.1 hP i3 (at_2 ki3) rfl 0 (by decide) w12 (fun _ h9 => h9) rfl dX8_copy_97 ?_
                  refine lv_iload_n hx hb dX8_copy_100 rfl (lv_at hl 4 rfl) ?_
                  refine lv_aload hx hb dX8_copy_101 (lv_at hl 0 rfl) ?_
                  refine va_getN (ci := 2) (C := RX5) (T := TX5) (N := 5) (v := .ref (gA G (i9 + 1))) hx hb hts inX5 hown hK.1 hP i9 (at_2 ki9) rfl 0 (by decide) w12 (fun _ h9 => h9) rfl dX8_copy_103 ?_
                  refine lv_iload hx hb dX8_copy_106 (lv_at hl 6 rfl) ?_
                  refine lv_iload hx hb dX8_copy_108 (lv_at hl 7 rfl) ?_
                  obtain ⟨b16, hF⟩ := ite_some hF
                  refine va_copyi hx hb (hml.trans hl.1.symm) hown w13 w14 w15 w16 hK.1 hP (Dw.D hG) hS (i3 + 1) (i9 + 1) 0 0 (at_6 ((kd_s0 ki3).1) ((kd_s0 ki3).2)) (at_6 ((kd_s0 ki9).1) ((kd_s0 ki9).2)) rfl rfl rfl b16.1 b16.2.1 b16.2.2.1 b16.2.2.2.1 b16.2.2.2.2 (fun _ _ => rfl) (Nat.le_of_ble_eq_true rfl) (Nat.le_of_ble_eq_true rfl) dX8_copy_110 (fun H locs hP _ hS => ?_)
                  have hP : Pw G (upc σ (i9 + 1) (va_cpy (σ (i3 + 1)) (σ (i9 + 1)) x2.toNatClampNeg x4.toNatClampNeg x5.toNatClampNeg)) H := Pw.of hP (set_c ((kd_s0 ki9).1) ((kd_s0 ki9).2))
                  refine lv_iload hx hb dX8_copy_113 (lv_at hl 7 rfl) ?_
                  exact e_iS hx hb hr hP hS hlocks dX8_copy_115 hF
                · have hF := ite_f (b2i_e0 c15) hF
                  refine lv_bipush (v := -13) hx hb dX8_copy_92 (by decide) ?_
                  exact e_iS hx hb hr hP hS hlocks dX8_copy_94 hF
            · have hF := ite_f c13 hF
              refine lv_bipush (v := -12) hx hb dX8_copy_66 (by decide) ?_
              exact e_iS hx hb hr hP hS hlocks dX8_copy_68 hF
        · have hF := ite_t (b2i_n0 c11) hF
          refine lv_bipush (v := -11) hx hb dX8_copy_42 (by decide) ?_
          exact e_iS hx hb hr hP hS hlocks dX8_copy_44 hF
def f_X8_cost_19 (x1 : Int32) (σ : St) (v3 : Int32) : Option Int32 := (some v3)
theorem f_X8_cost_19_e {x1 : Int32} {σ : St} {v3 : Int32} : f_X8_cost_19 x1 σ v3 = (some v3) := rfl
def f_X8_cost (x1 : Int32) (σ : St) : Option Int32 := (ob (f_X8_shelfAt x1 σ) (fun q1 => oc q1 ((f_X8_cost_19 x1 σ (f_X8_kindRefusal none σ))) (fun i3 => (if (f_X8_kindRefusal (some i3) σ) = 0 then (some (f_X4_expense (σ i3 3) (σ i3 4))) else f_X8_cost_19 x1 σ (f_X8_kindRefusal (some i3) σ)))))
set_option maxRecDepth 100000 in
set_option maxHeartbeats 4000000 in
theorem t_X8_cost (l : Launch) (G : GT) (hG : Dw G) (x1 : Int32) (σ : St) (o : Int32) (hF : f_X8_cost x1 σ = some o) : Ct l G yX8_cost wsX8_cost 3 61 [.ref (gA G 0), .int x1] σ (some (.int o)) σ := by
  refine Met.ofW (cc := cX8_cost) (maxL := 4) (ret := (some .int)) (by decide) rfl ?_
  intro p e s m args below meth c s₁ B hml hv
  obtain ⟨rfl, hP, hK⟩ := hv
  have hx := B.exec
  have hb := B.bytes
  have hr := B.returns
  have hts := atoms_spec (ws := wsX8_cost) B.pre
  have hown : s.vm.findClass RX8 = some m.cls := findClass_of_methodNamed B.named
  have hlocks := B.notSynchronized
  have Z : CallFix p m c cX8_cost 4 s _ wsX8_cost RX8 := ⟨hx, hb, hml, hown, hts⟩
  have hS : va_S (AG G) s.heap s.heap [] := va_S.rf
  have inX5 : ∀ w ∈ u_ws RX5 TX5 5, w ∈ wsX8_cost := by decide +kernel
  have w1n : va_Nw (.fieldLinkNest "AlmanacOfTheYearGone" 121 "AlmanacOfTheYearGone$Shelf" "kind" "I" "AlmanacOfTheYearGone") s := hK.2 _ (List.mem_of_getElem? (i := 6) rfl)
  have w1 := va_Nw.use (A := [.ref (gA G 0), .int x1].toArray) rfl w1n
  have w2n : va_Nw (.fieldLinkNest "AlmanacOfTheYearGone" 122 "AlmanacOfTheYearGone$Shelf" "figure" "I" "AlmanacOfTheYearGone") s := hK.2 _ (List.mem_of_getElem? (i := 7) rfl)
  have w2 := va_Nw.use (A := [.ref (gA G 0), .int x1].toArray) rfl w2n
  have w3 := hts (.initialized RX4) (by decide +kernel)
  have w4n : va_Nw (.methodLinkNest "AlmanacOfTheYearGone" 341 ⟨"AlmanacOfTheYearGone$Law", "expense", "(II)I"⟩ "AlmanacOfTheYearGone") s := hK.2 _ (List.mem_of_getElem? (i := 121) rfl)
  have w4 := va_Nw.use (A := [.ref (gA G 0), .int x1].toArray) rfl w4n
  have w5 := hts (.static yX4_expense) (by decide +kernel)
  have hl := lv_entry ([.ref (gA G 0), .int x1]) (n := 4) (Nat.le_of_ble_eq_true rfl)
  rw [lg_entry_eq]
  generalize (lg_sl ([.ref (gA G 0), .int x1]) ++ List.replicate (4 - (lg_sl ([.ref (gA G 0), .int x1])).length) Slot.unset).toArray = ls at hl ⊢
  have hl : lv_has ls 4 [(0, .ref (gA G 0)), (1, .int x1)] := hl
  unfold f_X8_cost at hF
  refine lv_aload_n hx hb dX8_cost_0 rfl (lv_at hl 0 rfl) ?_
  refine lv_iload_n hx hb dX8_cost_1 rfl (lv_at hl 1 rfl) ?_
  obtain ⟨q1, h2, hF⟩ := ob_some hF
  refine k_Vv (As := [.int x1]) (rest := []) Z hK hP hS (t_X8_shelfAt l G hG x1 σ _ h2) (cwV 1 hts gX8_cost_X8_shelfAt rfl rfl rfl (by decide +kernel) ⟨Nat.le_of_ble_eq_true rfl, Nat.le_of_ble_eq_true rfl⟩) (at_4 rfl) rfl rfl hl.1 rfl (Nat.le_of_ble_eq_true rfl) ⟨Nat.zero_le _, Nat.zero_le _⟩ dX8_cost_2 (fun H locs hP hS => ?_)
  rcases q1 with _ | i3
  · have hF := oc_n hF
    refine W.eq (g2 := F0 m 5 ls [.null]) rfl ?_
    refine lv_astore_nN (lv' := [(2, .null), (0, .ref (gA G 0)), (1, .int x1)]) hx hb dX8_cost_5 rfl hl (by decide) rfl (fun ls hl => ?_)
    refine lv_aload_nN hx hb dX8_cost_6 rfl (lv_at hl 0 rfl) ?_
    refine k_Sv (As := [.null]) (rest := []) Z hK hP hS (t_X8_kindRefusal l G hG none (fun _ h9 => by cases h9) σ) (va_cwS 1 hts gX8_cost_X8_kindRefusal rfl rfl rfl (by decide +kernel) ⟨Nat.le_of_ble_eq_true rfl, Nat.le_of_ble_eq_true rfl⟩) rfl hl.1 rfl (Nat.le_of_ble_eq_true rfl) ⟨Nat.zero_le _, Nat.zero_le _⟩ dX8_cost_7 (fun H locs hP hS => ?_)
    refine lv_istore_n (lv' := [(3, .int (f_X8_kindRefusal none σ)), (2, .null), (0, .ref (gA G 0)), (1, .int x1)]) hx hb dX8_cost_10 rfl hl (by decide) rfl (fun ls hl => ?_)
    refine lv_aload_nN hx hb dX8_cost_11 rfl (lv_at hl 1 rfl) ?_
    have J19 : ∀ (v3 : Int32) (H : Heap) (locs : List Loc) (hP : Pw G σ H) (hS : va_S (AG G) s.heap H locs) (ls : Array Slot) (hl : lv_has ls 4 [(0, .ref (gA G 0)), (1, .int x1), (3, .int v3)]) (hF : f_X8_cost_19 x1 σ v3 = some o), W p l e (headSpec wsX8_cost ({ frames := 3, cells := 0, slots := 0, locals := 61 })).room s m ([.ref (gA G 0), .int x1] : List Value).toArray below meth c H locs 0 0 (MQ below (qR G (some (.int o)) σ) ([.ref (gA G 0), .int x1] : List Value).toArray s 0 0 (AG G)) (F0 m 19 ls []) := by
      intro v3 H locs hP hS ls hl hF
      rw [f_X8_cost_19_e] at hF
      refine lv_iload_n hx hb dX8_cost_19 rfl (lv_at hl 2 rfl) ?_
      refine lv_goto (tgt := 34) hx hb dX8_cost_20 (by decide) ?_
      exact e_iP hx hb hr hP hS hlocks dX8_cost_34 hF
    refine lv_ifnullN (tgt := 19) hx hb dX8_cost_12 (by decide) ?_
    exact J19 (f_X8_kindRefusal none σ) _ _ hP hS ls (lv_sub hl [2, 3, 0] rfl) hF
  · have hF := oc_s hF
    have ki3 : kd i3 = 2 := q_X8_shelfAt  h2
    refine W.eq (g2 := F0 m 5 ls [.ref (gA G i3)]) rfl ?_
    refine lv_astore_n (lv' := [(2, .ref (gA G i3)), (0, .ref (gA G 0)), (1, .int x1)]) hx hb dX8_cost_5 rfl hl (by decide) rfl (fun ls hl => ?_)
    refine lv_aload_n hx hb dX8_cost_6 rfl (lv_at hl 0 rfl) ?_
    refine k_Sv (As := [.ref (gA G i3)]) (rest := []) Z hK hP hS (t_X8_kindRefusal l G hG (some i3) (fun _ h9 => by cases h9; exact ki3) σ) (va_cwS 1 hts gX8_cost_X8_kindRefusal rfl rfl rfl (by decide +kernel) ⟨Nat.le_of_ble_eq_true rfl, Nat.le_of_ble_eq_true rfl⟩) rfl hl.1 rfl (Nat.le_of_ble_eq_true rfl) ⟨Nat.zero_le _, Nat.zero_le _⟩ dX8_cost_7 (fun H locs hP hS => ?_)
    refine lv_istore_n (lv' := [(3, .int (f_X8_kindRefusal (some i3) σ)), (2, .ref (gA G i3)), (0, .ref (gA G 0)), (1, .int x1)]) hx hb dX8_cost_10 rfl hl (by decide) rfl (fun ls hl => ?_)
    refine lv_aload_n hx hb dX8_cost_11 rfl (lv_at hl 1 rfl) ?_
    have J19 : ∀ (v3 : Int32) (H : Heap) (locs : List Loc) (hP : Pw G σ H) (hS : va_S (AG G) s.heap H locs) (ls : Array Slot) (hl : lv_has ls 4 [(0, .ref (gA G 0)), (1, .int x1), (3, .int v3)]) (hF : f_X8_cost_19 x1 σ v3 = some o), W p l e (headSpec wsX8_cost ({ frames := 3, cells := 0, slots := 0, locals := 61 })).room s m ([.ref (gA G 0), .int x1] : List Value).toArray below meth c H locs 0 0 (MQ below (qR G (some (.int o)) σ) ([.ref (gA G 0), .int x1] : List Value).toArray s 0 0 (AG G)) (F0 m 19 ls []) := by
      intro v3 H locs hP hS ls hl hF
      rw [f_X8_cost_19_e] at hF
      refine lv_iload_n hx hb dX8_cost_19 rfl (lv_at hl 2 rfl) ?_
      refine lv_goto (tgt := 34) hx hb dX8_cost_20 (by decide) ?_
      exact e_iP hx hb hr hP hS hlocks dX8_cost_34 hF
    refine lv_ifnull hx hb dX8_cost_12 ?_
    refine lv_iload_n hx hb dX8_cost_15 rfl (lv_at hl 0 rfl) ?_
    refine lv_if_eq (tgt := 23) hx hb dX8_cost_16 (by decide) (fun c4 => ?_) (fun c4 => ?_)
    · have hF := ite_t c4 hF
      refine lv_aload_n hx hb dX8_cost_23 rfl (lv_at hl 1 rfl) ?_
      refine va_getN (ci := 2) (C := RX5) (T := TX5) (N := 5) (v := .int (σ i3 3)) hx hb hts inX5 hown hK.1 hP i3 (at_2 ki3) rfl 3 (by decide) w1 (fun _ h9 => h9) rfl dX8_cost_24 ?_
      refine lv_aload_n hx hb dX8_cost_27 rfl (lv_at hl 1 rfl) ?_
      refine va_getN (ci := 2) (C := RX5) (T := TX5) (N := 5) (v := .int (σ i3 4)) hx hb hts inX5 hown hK.1 hP i3 (at_2 ki3) rfl 4 (by decide) w2 (fun _ h9 => h9) rfl dX8_cost_28 ?_
      refine k_SNv (As := [.int (σ i3 3), .int (σ i3 4)]) (rest := []) Z hK hP hS (t_X4_expense l G hG (σ i3 3) (σ i3 4) σ) ⟨va_cnB 2 hts gX8_cost_X4_expense_n341 rfl rfl rfl w4n w3 (by decide +kernel) ⟨Nat.le_of_ble_eq_true rfl, Nat.le_of_ble_eq_true rfl⟩, w5, trivial⟩ rfl hl.1 rfl (Nat.le_of_ble_eq_true rfl) ⟨Nat.zero_le _, Nat.zero_le _⟩ dX8_cost_31 (fun H locs hP hS => ?_)
      exact e_iP hx hb hr hP hS hlocks dX8_cost_34 hF
    · have hF := ite_f c4 hF
      exact J19 (f_X8_kindRefusal (some i3) σ) _ _ hP hS ls (lv_sub hl [2, 3, 0] rfl) hF
def f_X9_isIn (x0 : Int32) (x1 : Int32) (x2 : Int32) : Bool := (if x0 < x1 then false else (if x2 < x0 then false else true))
set_option maxRecDepth 100000 in
set_option maxHeartbeats 4000000 in
theorem t_X9_isIn (l : Launch) (G : GT) (hG : Dw G) (x0 : Int32) (x1 : Int32) (x2 : Int32) (σ : St) : Ct l G yX9_isIn wsX9_isIn 0 0 [.int x0, .int x1, .int x2] σ (some (.int (b2i (f_X9_isIn x0 x1 x2)))) σ := by
  obtain ⟨o, hF⟩ : ∃ o, f_X9_isIn x0 x1 x2 = o := ⟨_, rfl⟩
  rw [hF]
  refine Met.ofW (cc := cX9_isIn) (maxL := 3) (ret := (some .boolean)) (by decide) rfl ?_
  intro p e s m args below meth c s₁ B hml hv
  obtain ⟨rfl, hP, hK⟩ := hv
  have hx := B.exec
  have hb := B.bytes
  have hr := B.returns
  have hts := atoms_spec (ws := wsX9_isIn) B.pre
  have hown : s.vm.findClass RX9 = some m.cls := findClass_of_methodNamed B.named
  have hlocks := B.notSynchronized
  have Z : CallFix p m c cX9_isIn 3 s _ wsX9_isIn RX9 := ⟨hx, hb, hml, hown, hts⟩
  have hS : va_S (AG G) s.heap s.heap [] := va_S.rf
  have hl := lv_entry ([.int x0, .int x1, .int x2]) (n := 3) (Nat.le_of_ble_eq_true rfl)
  rw [lg_entry_eq]
  generalize (lg_sl ([.int x0, .int x1, .int x2]) ++ List.replicate (3 - (lg_sl ([.int x0, .int x1, .int x2])).length) Slot.unset).toArray = ls at hl ⊢
  have hl : lv_has ls 3 [(0, .int x0), (1, .int x1), (2, .int x2)] := hl
  unfold f_X9_isIn at hF
  refine lv_iload_n hx hb dX9_isIn_0 rfl (lv_at hl 0 rfl) ?_
  refine lv_iload_n hx hb dX9_isIn_1 rfl (lv_at hl 1 rfl) ?_
  refine lv_icmp_lt (tgt := 14) hx hb dX9_isIn_2 (by decide) (fun c1 => ?_) (fun c1 => ?_)
  · have hF := ite_t c1 hF
    refine lv_iconst (v := 0) hx hb dX9_isIn_14 (by decide) ?_
    exact e_zT (b := false) hx hb hr hP hS hlocks dX9_isIn_15 rfl hF
  · have hF := ite_f c1 hF
    refine lv_iload_n hx hb dX9_isIn_5 rfl (lv_at hl 0 rfl) ?_
    refine lv_iload_n hx hb dX9_isIn_6 rfl (lv_at hl 2 rfl) ?_
    refine lv_icmp_gt (tgt := 14) hx hb dX9_isIn_7 (by decide) (fun c2 => ?_) (fun c2 => ?_)
    · have hF := ite_t c2 hF
      refine lv_iconst (v := 0) hx hb dX9_isIn_14 (by decide) ?_
      exact e_zT (b := false) hx hb hr hP hS hlocks dX9_isIn_15 rfl hF
    · have hF := ite_f c2 hF
      refine lv_iconst (v := 1) hx hb dX9_isIn_10 (by decide) ?_
      refine lv_goto (tgt := 15) hx hb dX9_isIn_11 (by decide) ?_
      exact e_zT (b := true) hx hb hr hP hS hlocks dX9_isIn_15 rfl hF
def f_X9_least (x0 : Int32) (x1 : Int32) : Int32 := (if x1 ≤ x0 then x1 else x0)
set_option maxRecDepth 100000 in
set_option maxHeartbeats 4000000 in
theorem t_X9_least (l : Launch) (G : GT) (hG : Dw G) (x0 : Int32) (x1 : Int32) (σ : St) : Ct l G yX9_least wsX9_least 0 0 [.int x0, .int x1] σ (some (.int (f_X9_least x0 x1))) σ := by
  obtain ⟨o, hF⟩ : ∃ o, f_X9_least x0 x1 = o := ⟨_, rfl⟩
  rw [hF]
  refine Met.ofW (cc := cX9_least) (maxL := 2) (ret := (some .int)) (by decide) rfl ?_
  intro p e s m args below meth c s₁ B hml hv
  obtain ⟨rfl, hP, hK⟩ := hv
  have hx := B.exec
  have hb := B.bytes
  have hr := B.returns
  have hts := atoms_spec (ws := wsX9_least) B.pre
  have hown : s.vm.findClass RX9 = some m.cls := findClass_of_methodNamed B.named
  have hlocks := B.notSynchronized
  have Z : CallFix p m c cX9_least 2 s _ wsX9_least RX9 := ⟨hx, hb, hml, hown, hts⟩
  have hS : va_S (AG G) s.heap s.heap [] := va_S.rf
  have hl := lv_entry ([.int x0, .int x1]) (n := 2) (Nat.le_of_ble_eq_true rfl)
  rw [lg_entry_eq]
  generalize (lg_sl ([.int x0, .int x1]) ++ List.replicate (2 - (lg_sl ([.int x0, .int x1])).length) Slot.unset).toArray = ls at hl ⊢
  have hl : lv_has ls 2 [(0, .int x0), (1, .int x1)] := hl
  unfold f_X9_least at hF
  refine lv_iload_n hx hb dX9_least_0 rfl (lv_at hl 0 rfl) ?_
  refine lv_iload_n hx hb dX9_least_1 rfl (lv_at hl 1 rfl) ?_
  refine lv_icmp_ge (tgt := 9) hx hb dX9_least_2 (by decide) (fun c1 => ?_) (fun c1 => ?_)
  · have hF := ite_t c1 hF
    refine lv_iload_n hx hb dX9_least_9 rfl (lv_at hl 1 rfl) ?_
    exact e_iT hx hb hr hP hS hlocks dX9_least_10 hF
  · have hF := ite_f c1 hF
    refine lv_iload_n hx hb dX9_least_5 rfl (lv_at hl 0 rfl) ?_
    refine lv_goto (tgt := 10) hx hb dX9_least_6 (by decide) ?_
    exact e_iT hx hb hr hP hS hlocks dX9_least_10 hF
def f_X9_copies_2 (i0 : Nat) (i1 : Nat) : Nat → (Int32 → St → Option St)
  | 0 => fun _ _ => none
  | fl + 1 => fun v2 τ => (if (52 : Int32) ≤ v2 then (some τ) else (if inb v2 52 then if inb v2 52 then (f_X9_copies_2 i0 i1 fl) (v2 + (1 : Int32)) (up τ i1 v2.toNatClampNeg (τ i0 v2.toNatClampNeg)) else none else none))
theorem f_X9_copies_2_s {i0 : Nat} {i1 : Nat} (fl : Nat) {v2 : Int32} {τ : St} : f_X9_copies_2 i0 i1 (fl + 1) v2 τ = (if (52 : Int32) ≤ v2 then (some τ) else (if inb v2 52 then if inb v2 52 then (f_X9_copies_2 i0 i1 fl) (v2 + (1 : Int32)) (up τ i1 v2.toNatClampNeg (τ i0 v2.toNatClampNeg)) else none else none)) := rfl
def f_X9_copies (i0 : Nat) (i1 : Nat) (σ : St) : Option St := (f_X9_copies_2 i0 i1 fu (0 : Int32) σ)
set_option maxRecDepth 100000 in
set_option maxHeartbeats 4000000 in
theorem t_X9_copies (l : Launch) (G : GT) (hG : Dw G) (i0 : Nat) (i1 : Nat) (hk0 : kd i0 = 6 ∧ ln i0 = 52) (hk1 : kd i1 = 6 ∧ ln i1 = 52) (σ : St) (o : St) (hF : f_X9_copies i0 i1 σ = some o) : Ct l G yX9_copies wsX9_copies 0 0 [.ref (gA G i0), .ref (gA G i1)] σ none o := by
  refine Met.ofW (cc := cX9_copies) (maxL := 3) (ret := none) (by decide) rfl ?_
  intro p e s m args below meth c s₁ B hml hv
  obtain ⟨rfl, hP, hK⟩ := hv
  have hx := B.exec
  have hb := B.bytes
  have hr := B.returns
  have hts := atoms_spec (ws := wsX9_copies) B.pre
  have hown : s.vm.findClass RX9 = some m.cls := findClass_of_methodNamed B.named
  have hlocks := B.notSynchronized
  have Z : CallFix p m c cX9_copies 3 s _ wsX9_copies RX9 := ⟨hx, hb, hml, hown, hts⟩
  have hS : va_S (AG G) s.heap s.heap [] := va_S.rf
  have hl := lv_entry ([.ref (gA G i0), .ref (gA G i1)]) (n := 3) (Nat.le_of_ble_eq_true rfl)
  rw [lg_entry_eq]
  generalize (lg_sl ([.ref (gA G i0), .ref (gA G i1)]) ++ List.replicate (3 - (lg_sl ([.ref (gA G i0), .ref (gA G i1)])).length) Slot.unset).toArray = ls at hl ⊢
  have hl : lv_has ls 3 [(0, .ref (gA G i0)), (1, .ref (gA G i1))] := hl
  unfold f_X9_copies at hF
  refine lv_iconst (v := 0) hx hb dX9_copies_0 (by decide) ?_
  have J2 : ∀ (fl : Nat) (v2 : Int32) (τ : St) (H : Heap) (locs : List Loc) (hP : Pw G τ H) (hS : va_S (AG G) s.heap H locs) (ls : Array Slot) (hl : lv_has ls 3 [(0, .ref (gA G i0)), (1, .ref (gA G i1)), (2, .int v2)]) (hF : f_X9_copies_2 i0 i1 fl v2 τ = some o), W p l e (headSpec wsX9_copies ({ frames := 0, cells := 0, slots := 0, locals := 0 })).room s m ([.ref (gA G i0), .ref (gA G i1)] : List Value).toArray below meth c H locs 0 0 (MQ below (qR G none o) ([.ref (gA G i0), .ref (gA G i1)] : List Value).toArray s 0 0 (AG G)) (F0 m 2 ls []) := by
    intro fl2
    induction fl2 with
    | zero => intro v2 τ H locs hP hS ls hl hF; cases hF
    | succ fl2 ih2 =>
      intro v2 τ H locs hP hS ls hl hF
      rw [f_X9_copies_2_s] at hF
      refine lv_iload_n hx hb dX9_copies_2 rfl (lv_at hl 2 rfl) ?_
      refine lv_bipush (v := 52) hx hb dX9_copies_3 (by decide) ?_
      refine lv_icmp_ge (tgt := 20) hx hb dX9_copies_5 (by decide) (fun c1 => ?_) (fun c1 => ?_)
      · have hF := ite_t c1 hF
        exact e_vS hx hb hr hP hS hlocks dX9_copies_20 hF
      · have hF := ite_f c1 hF
        refine lv_aload_n hx hb dX9_copies_8 rfl (lv_at hl 1 rfl) ?_
        refine lv_iload_n hx hb dX9_copies_9 rfl (lv_at hl 2 rfl) ?_
        refine lv_aload_n hx hb dX9_copies_10 rfl (lv_at hl 0 rfl) ?_
        refine lv_iload_n hx hb dX9_copies_11 rfl (lv_at hl 2 rfl) ?_
        obtain ⟨b2, hF⟩ := ite_some hF
        refine va_iald hx hb hK.1 hP i0 0 (at_6 hk0.1 hk0.2) rfl (inb_in b2) dX9_copies_12 ?_
        obtain ⟨b3, hF⟩ := ite_some hF
        refine va_iast hx hb hK.1 hP (Dw.D hG) hS i1 0 (at_6 hk1.1 hk1.2) rfl (inb_in b3) dX9_copies_13 (fun H locs hP _ hS => ?_)
        have hP : Pw G (up τ i1 v2.toNatClampNeg (τ i0 v2.toNatClampNeg)) H := Pw.of hP (set_6 hk1.1 hk1.2)
        refine lv_iinc (v := (v2 + (1 : Int32))) (lv' := [(2, .int (v2 + (1 : Int32))), (0, .ref (gA G i0)), (1, .ref (gA G i1))]) hx hb dX9_copies_14 hl (k := 2) rfl rfl (by decide) rfl (fun ls hl => ?_)
        refine lv_goto (tgt := 2) hx hb dX9_copies_17 (by decide) ?_
        exact ih2 (v2 + (1 : Int32)) (up τ i1 v2.toNatClampNeg (τ i0 v2.toNatClampNeg)) _ _ hP hS ls (lv_sub hl [1, 2, 0] rfl) hF
  refine lv_istore_n (lv' := [(2, .int (0 : Int32)), (0, .ref (gA G i0)), (1, .ref (gA G i1))]) hx hb dX9_copies_1 rfl hl (by decide) rfl (fun ls hl => ?_)
  exact J2 fu (0 : Int32) σ _ _ hP hS ls (lv_sub hl [1, 2, 0] rfl) hF
def f_X9_of (x0 : Int32) (x1 : Int32) : Int32 := (((2 : Int32) + ((5 : Int32) * x0)) + x1)
set_option maxRecDepth 100000 in
set_option maxHeartbeats 4000000 in
theorem t_X9_of (l : Launch) (G : GT) (hG : Dw G) (x0 : Int32) (x1 : Int32) (σ : St) : Ct l G yX9_of wsX9_of 0 0 [.int x0, .int x1] σ (some (.int (f_X9_of x0 x1))) σ := by
  obtain ⟨o, hF⟩ : ∃ o, f_X9_of x0 x1 = o := ⟨_, rfl⟩
  rw [hF]
  refine Met.ofW (cc := cX9_of) (maxL := 2) (ret := (some .int)) (by decide) rfl ?_
  intro p e s m args below meth c s₁ B hml hv
  obtain ⟨rfl, hP, hK⟩ := hv
  have hx := B.exec
  have hb := B.bytes
  have hr := B.returns
  have hts := atoms_spec (ws := wsX9_of) B.pre
  have hown : s.vm.findClass RX9 = some m.cls := findClass_of_methodNamed B.named
  have hlocks := B.notSynchronized
  have Z : CallFix p m c cX9_of 2 s _ wsX9_of RX9 := ⟨hx, hb, hml, hown, hts⟩
  have hS : va_S (AG G) s.heap s.heap [] := va_S.rf
  have hl := lv_entry ([.int x0, .int x1]) (n := 2) (Nat.le_of_ble_eq_true rfl)
  rw [lg_entry_eq]
  generalize (lg_sl ([.int x0, .int x1]) ++ List.replicate (2 - (lg_sl ([.int x0, .int x1])).length) Slot.unset).toArray = ls at hl ⊢
  have hl : lv_has ls 2 [(0, .int x0), (1, .int x1)] := hl
  unfold f_X9_of at hF
  refine lv_iconst (v := 2) hx hb dX9_of_0 (by decide) ?_
  refine lv_iconst (v := 5) hx hb dX9_of_1 (by decide) ?_
  refine lv_iload_n hx hb dX9_of_2 rfl (lv_at hl 0 rfl) ?_
  refine lv_imul hx hb dX9_of_3 ?_
  refine lv_iadd hx hb dX9_of_4 ?_
  refine lv_iload_n hx hb dX9_of_5 rfl (lv_at hl 1 rfl) ?_
  refine lv_iadd hx hb dX9_of_6 ?_
  exact e_iT hx hb hr hP hS hlocks dX9_of_7 hF
def f_X9_isDeed (x1 : Int32) (σ : St) : Option Bool := (some (f_X9_isIn x1 (0 : Int32) ((σ 62 0) - (1 : Int32))))
set_option maxRecDepth 100000 in
set_option maxHeartbeats 4000000 in
theorem t_X9_isDeed (l : Launch) (G : GT) (hG : Dw G) (x1 : Int32) (σ : St) (o : Bool) (hF : f_X9_isDeed x1 σ = some o) : Ct l G yX9_isDeed wsX9_isDeed 1 22 [.ref (gA G 61), .int x1] σ (some (.int (b2i o))) σ := by
  refine Met.ofW (cc := cX9_isDeed) (maxL := 2) (ret := (some .boolean)) (by decide) rfl ?_
  intro p e s m args below meth c s₁ B hml hv
  obtain ⟨rfl, hP, hK⟩ := hv
  have hx := B.exec
  have hb := B.bytes
  have hr := B.returns
  have hts := atoms_spec (ws := wsX9_isDeed) B.pre
  have hown : s.vm.findClass RX9 = some m.cls := findClass_of_methodNamed B.named
  have hlocks := B.notSynchronized
  have Z : CallFix p m c cX9_isDeed 2 s _ wsX9_isDeed RX9 := ⟨hx, hb, hml, hown, hts⟩
  have hS : va_S (AG G) s.heap s.heap [] := va_S.rf
  have inX9 : ∀ w ∈ u_ws RX9 TX9 21, w ∈ wsX9_isDeed := by decide +kernel
  have w1 := hts (.fieldLink RX9 9 "AlmanacOfTheYearGoneModel" "s" "[I") (by decide +kernel)
  have hl := lv_entry ([.ref (gA G 61), .int x1]) (n := 2) (Nat.le_of_ble_eq_true rfl)
  rw [lg_entry_eq]
  generalize (lg_sl ([.ref (gA G 61), .int x1]) ++ List.replicate (2 - (lg_sl ([.ref (gA G 61), .int x1])).length) Slot.unset).toArray = ls at hl ⊢
  have hl : lv_has ls 2 [(0, .ref (gA G 61)), (1, .int x1)] := hl
  unfold f_X9_isDeed at hF
  refine lv_iload_n hx hb dX9_isDeed_0 rfl (lv_at hl 1 rfl) ?_
  refine lv_iconst (v := 0) hx hb dX9_isDeed_1 (by decide) ?_
  refine lv_aload_n hx hb dX9_isDeed_2 rfl (lv_at hl 0 rfl) ?_
  refine va_get (ci := 5) (C := RX9) (T := TX9) (N := 21) (v := .ref (gA G 62)) hx hb hts inX9 hown hK.1 hP 61 (at_5 rfl) rfl 0 (by decide) w1 (fun _ h9 => h9) rfl dX9_isDeed_3 ?_
  refine lv_iconst (v := 0) hx hb dX9_isDeed_6 (by decide) ?_
  refine va_iald hx hb hK.1 hP 62 0 (at_6 (rfl : kd 62 = 6) (rfl : ln 62 = 52)) rfl (inb_in (by decide)) dX9_isDeed_7 ?_
  refine W.eq (g2 := F0 m 8 ls ([.int (σ 62 0), .int (0 : Int32), .int x1])) rfl ?_
  refine lv_iconst (v := 1) hx hb dX9_isDeed_8 (by decide) ?_
  refine lv_isub hx hb dX9_isDeed_9 ?_
  refine k_Sv (As := [.int x1, .int (0 : Int32), .int ((σ 62 0) - (1 : Int32))]) (rest := []) Z hK hP hS (t_X9_isIn l G hG x1 (0 : Int32) ((σ 62 0) - (1 : Int32)) σ) (va_cwS 3 hts gX9_isDeed_X9_isIn rfl rfl rfl (by decide +kernel) ⟨Nat.le_of_ble_eq_true rfl, Nat.le_of_ble_eq_true rfl⟩) rfl hl.1 rfl (Nat.le_of_ble_eq_true rfl) ⟨Nat.zero_le _, Nat.zero_le _⟩ dX9_isDeed_10 (fun H locs hP hS => ?_)
  exact e_zP (b := (f_X9_isIn x1 (0 : Int32) ((σ 62 0) - (1 : Int32)))) hx hb hr hP hS hlocks dX9_isDeed_13 rfl hF
def f_X9_isPerson (x0 : Int32) : Bool := ((f_X9_isIn x0 (0 : Int32) (4 : Int32)))
set_option maxRecDepth 100000 in
set_option maxHeartbeats 4000000 in
theorem t_X9_isPerson (l : Launch) (G : GT) (hG : Dw G) (x0 : Int32) (σ : St) : Ct l G yX9_isPerson wsX9_isPerson 1 22 [.int x0] σ (some (.int (b2i (f_X9_isPerson x0)))) σ := by
  obtain ⟨o, hF⟩ : ∃ o, f_X9_isPerson x0 = o := ⟨_, rfl⟩
  rw [hF]
  refine Met.ofW (cc := cX9_isPerson) (maxL := 1) (ret := (some .boolean)) (by decide) rfl ?_
  intro p e s m args below meth c s₁ B hml hv
  obtain ⟨rfl, hP, hK⟩ := hv
  have hx := B.exec
  have hb := B.bytes
  have hr := B.returns
  have hts := atoms_spec (ws := wsX9_isPerson) B.pre
  have hown : s.vm.findClass RX9 = some m.cls := findClass_of_methodNamed B.named
  have hlocks := B.notSynchronized
  have Z : CallFix p m c cX9_isPerson 1 s _ wsX9_isPerson RX9 := ⟨hx, hb, hml, hown, hts⟩
  have hS : va_S (AG G) s.heap s.heap [] := va_S.rf
  have hl := lv_entry ([.int x0]) (n := 1) (Nat.le_of_ble_eq_true rfl)
  rw [lg_entry_eq]
  generalize (lg_sl ([.int x0]) ++ List.replicate (1 - (lg_sl ([.int x0])).length) Slot.unset).toArray = ls at hl ⊢
  have hl : lv_has ls 1 [(0, .int x0)] := hl
  unfold f_X9_isPerson at hF
  refine lv_iload_n hx hb dX9_isPerson_0 rfl (lv_at hl 0 rfl) ?_
  refine lv_iconst (v := 0) hx hb dX9_isPerson_1 (by decide) ?_
  refine lv_iconst (v := 4) hx hb dX9_isPerson_2 (by decide) ?_
  refine k_Sv (As := [.int x0, .int (0 : Int32), .int (4 : Int32)]) (rest := []) Z hK hP hS (t_X9_isIn l G hG x0 (0 : Int32) (4 : Int32) σ) (va_cwS 3 hts gX9_isPerson_X9_isIn rfl rfl rfl (by decide +kernel) ⟨Nat.le_of_ble_eq_true rfl, Nat.le_of_ble_eq_true rfl⟩) rfl hl.1 rfl (Nat.le_of_ble_eq_true rfl) ⟨Nat.zero_le _, Nat.zero_le _⟩ dX9_isPerson_3 (fun H locs hP hS => ?_)
  exact e_zT (b := (f_X9_isIn x0 (0 : Int32) (4 : Int32))) hx hb hr hP hS hlocks dX9_isPerson_6 rfl hF
def f_X9_isDay (x0 : Int32) : Bool := ((f_X9_isIn x0 (0 : Int32) (364 : Int32)))
set_option maxRecDepth 100000 in
set_option maxHeartbeats 4000000 in
theorem t_X9_isDay (l : Launch) (G : GT) (hG : Dw G) (x0 : Int32) (σ : St) : Ct l G yX9_isDay wsX9_isDay 1 22 [.int x0] σ (some (.int (b2i (f_X9_isDay x0)))) σ := by
  obtain ⟨o, hF⟩ : ∃ o, f_X9_isDay x0 = o := ⟨_, rfl⟩
  rw [hF]
  refine Met.ofW (cc := cX9_isDay) (maxL := 1) (ret := (some .boolean)) (by decide) rfl ?_
  intro p e s m args below meth c s₁ B hml hv
  obtain ⟨rfl, hP, hK⟩ := hv
  have hx := B.exec
  have hb := B.bytes
  have hr := B.returns
  have hts := atoms_spec (ws := wsX9_isDay) B.pre
  have hown : s.vm.findClass RX9 = some m.cls := findClass_of_methodNamed B.named
  have hlocks := B.notSynchronized
  have Z : CallFix p m c cX9_isDay 1 s _ wsX9_isDay RX9 := ⟨hx, hb, hml, hown, hts⟩
  have hS : va_S (AG G) s.heap s.heap [] := va_S.rf
  have hl := lv_entry ([.int x0]) (n := 1) (Nat.le_of_ble_eq_true rfl)
  rw [lg_entry_eq]
  generalize (lg_sl ([.int x0]) ++ List.replicate (1 - (lg_sl ([.int x0])).length) Slot.unset).toArray = ls at hl ⊢
  have hl : lv_has ls 1 [(0, .int x0)] := hl
  unfold f_X9_isDay at hF
  refine lv_iload_n hx hb dX9_isDay_0 rfl (lv_at hl 0 rfl) ?_
  refine lv_iconst (v := 0) hx hb dX9_isDay_1 (by decide) ?_
  refine lv_sipush (v := 364) hx hb dX9_isDay_2 (by decide) ?_
  refine k_Sv (As := [.int x0, .int (0 : Int32), .int (364 : Int32)]) (rest := []) Z hK hP hS (t_X9_isIn l G hG x0 (0 : Int32) (364 : Int32) σ) (va_cwS 3 hts gX9_isDay_X9_isIn rfl rfl rfl (by decide +kernel) ⟨Nat.le_of_ble_eq_true rfl, Nat.le_of_ble_eq_true rfl⟩) rfl hl.1 rfl (Nat.le_of_ble_eq_true rfl) ⟨Nat.zero_le _, Nat.zero_le _⟩ dX9_isDay_5 (fun H locs hP hS => ?_)
  exact e_zT (b := (f_X9_isIn x0 (0 : Int32) (364 : Int32))) hx hb hr hP hS hlocks dX9_isDay_8 rfl hF
def f_X9_has (x0 : Int32) (x1 : Int32) : Bool := (if ((x0 >>> (x1 &&& 31)) &&& (1 : Int32)) = (1 : Int32) then true else false)
set_option maxRecDepth 100000 in
set_option maxHeartbeats 4000000 in
theorem t_X9_has (l : Launch) (G : GT) (hG : Dw G) (x0 : Int32) (x1 : Int32) (σ : St) : Ct l G yX9_has wsX9_has 0 0 [.int x0, .int x1] σ (some (.int (b2i (f_X9_has x0 x1)))) σ := by
  obtain ⟨o, hF⟩ : ∃ o, f_X9_has x0 x1 = o := ⟨_, rfl⟩
  rw [hF]
  refine Met.ofW (cc := cX9_has) (maxL := 2) (ret := (some .boolean)) (by decide) rfl ?_
  intro p e s m args below meth c s₁ B hml hv
  obtain ⟨rfl, hP, hK⟩ := hv
  have hx := B.exec
  have hb := B.bytes
  have hr := B.returns
  have hts := atoms_spec (ws := wsX9_has) B.pre
  have hown : s.vm.findClass RX9 = some m.cls := findClass_of_methodNamed B.named
  have hlocks := B.notSynchronized
  have Z : CallFix p m c cX9_has 2 s _ wsX9_has RX9 := ⟨hx, hb, hml, hown, hts⟩
  have hS : va_S (AG G) s.heap s.heap [] := va_S.rf
  have hl := lv_entry ([.int x0, .int x1]) (n := 2) (Nat.le_of_ble_eq_true rfl)
  rw [lg_entry_eq]
  generalize (lg_sl ([.int x0, .int x1]) ++ List.replicate (2 - (lg_sl ([.int x0, .int x1])).length) Slot.unset).toArray = ls at hl ⊢
  have hl : lv_has ls 2 [(0, .int x0), (1, .int x1)] := hl
  unfold f_X9_has at hF
  refine lv_iload_n hx hb dX9_has_0 rfl (lv_at hl 0 rfl) ?_
  refine lv_iload_n hx hb dX9_has_1 rfl (lv_at hl 1 rfl) ?_
  refine lv_ishr hx hb dX9_has_2 ?_
  refine lv_iconst (v := 1) hx hb dX9_has_3 (by decide) ?_
  refine lv_iand hx hb dX9_has_4 ?_
  refine lv_iconst (v := 1) hx hb dX9_has_5 (by decide) ?_
  refine lv_icmp_ne (tgt := 13) hx hb dX9_has_6 (by decide) (fun c1 => ?_) (fun c1 => ?_)
  · have hF := ite_f c1 hF
    refine lv_iconst (v := 0) hx hb dX9_has_13 (by decide) ?_
    exact e_zT (b := false) hx hb hr hP hS hlocks dX9_has_14 rfl hF
  · have hF := ite_t c1 hF
    refine lv_iconst (v := 1) hx hb dX9_has_9 (by decide) ?_
    refine lv_goto (tgt := 14) hx hb dX9_has_10 (by decide) ?_
    exact e_zT (b := true) hx hb hr hP hS hlocks dX9_has_14 rfl hF
def f_X9_bits_4 (x0 : Int32) (σ : St) : Nat → (Int32 → Int32 → Option Int32)
  | 0 => fun _ _ => none
  | fl + 1 => fun v1 v2 => (if (10 : Int32) ≤ v2 then (some v1) else ((f_X9_bits_4 x0 σ fl) (v1 + ((x0 >>> (v2 &&& 31)) &&& (1 : Int32))) (v2 + (1 : Int32))))
theorem f_X9_bits_4_s {x0 : Int32} {σ : St} (fl : Nat) {v1 : Int32} {v2 : Int32} : f_X9_bits_4 x0 σ (fl + 1) v1 v2 = (if (10 : Int32) ≤ v2 then (some v1) else ((f_X9_bits_4 x0 σ fl) (v1 + ((x0 >>> (v2 &&& 31)) &&& (1 : Int32))) (v2 + (1 : Int32)))) := rfl
def f_X9_bits (x0 : Int32) (σ : St) : Option Int32 := (f_X9_bits_4 x0 σ fu (0 : Int32) (0 : Int32))
set_option maxRecDepth 100000 in
set_option maxHeartbeats 4000000 in
theorem t_X9_bits (l : Launch) (G : GT) (hG : Dw G) (x0 : Int32) (σ : St) (o : Int32) (hF : f_X9_bits x0 σ = some o) : Ct l G yX9_bits wsX9_bits 0 0 [.int x0] σ (some (.int o)) σ := by
  refine Met.ofW (cc := cX9_bits) (maxL := 3) (ret := (some .int)) (by decide) rfl ?_
  intro p e s m args below meth c s₁ B hml hv
  obtain ⟨rfl, hP, hK⟩ := hv
  have hx := B.exec
  have hb := B.bytes
  have hr := B.returns
  have hts := atoms_spec (ws := wsX9_bits) B.pre
  have hown : s.vm.findClass RX9 = some m.cls := findClass_of_methodNamed B.named
  have hlocks := B.notSynchronized
  have Z : CallFix p m c cX9_bits 3 s _ wsX9_bits RX9 := ⟨hx, hb, hml, hown, hts⟩
  have hS : va_S (AG G) s.heap s.heap [] := va_S.rf
  have hl := lv_entry ([.int x0]) (n := 3) (Nat.le_of_ble_eq_true rfl)
  rw [lg_entry_eq]
  generalize (lg_sl ([.int x0]) ++ List.replicate (3 - (lg_sl ([.int x0])).length) Slot.unset).toArray = ls at hl ⊢
  have hl : lv_has ls 3 [(0, .int x0)] := hl
  unfold f_X9_bits at hF
  refine lv_iconst (v := 0) hx hb dX9_bits_0 (by decide) ?_
  refine lv_istore_n (lv' := [(1, .int (0 : Int32)), (0, .int x0)]) hx hb dX9_bits_1 rfl hl (by decide) rfl (fun ls hl => ?_)
  refine lv_iconst (v := 0) hx hb dX9_bits_2 (by decide) ?_
  have J4 : ∀ (fl : Nat) (v1 : Int32) (v2 : Int32) (H : Heap) (locs : List Loc) (hP : Pw G σ H) (hS : va_S (AG G) s.heap H locs) (ls : Array Slot) (hl : lv_has ls 3 [(0, .int x0), (1, .int v1), (2, .int v2)]) (hF : f_X9_bits_4 x0 σ fl v1 v2 = some o), W p l e (headSpec wsX9_bits ({ frames := 0, cells := 0, slots := 0, locals := 0 })).room s m ([.int x0] : List Value).toArray below meth c H locs 0 0 (MQ below (qR G (some (.int o)) σ) ([.int x0] : List Value).toArray s 0 0 (AG G)) (F0 m 4 ls []) := by
    intro fl4
    induction fl4 with
    | zero => intro v1 v2 H locs hP hS ls hl hF; cases hF
    | succ fl4 ih4 =>
      intro v1 v2 H locs hP hS ls hl hF
      rw [f_X9_bits_4_s] at hF
      refine lv_iload_n hx hb dX9_bits_4 rfl (lv_at hl 2 rfl) ?_
      refine lv_bipush (v := 10) hx hb dX9_bits_5 (by decide) ?_
      refine lv_icmp_ge (tgt := 24) hx hb dX9_bits_7 (by decide) (fun c1 => ?_) (fun c1 => ?_)
      · have hF := ite_t c1 hF
        refine lv_iload_n hx hb dX9_bits_24 rfl (lv_at hl 1 rfl) ?_
        exact e_iP hx hb hr hP hS hlocks dX9_bits_25 hF
      · have hF := ite_f c1 hF
        refine lv_iload_n hx hb dX9_bits_10 rfl (lv_at hl 1 rfl) ?_
        refine lv_iload_n hx hb dX9_bits_11 rfl (lv_at hl 0 rfl) ?_
        refine lv_iload_n hx hb dX9_bits_12 rfl (lv_at hl 2 rfl) ?_
        refine lv_ishr hx hb dX9_bits_13 ?_
        refine lv_iconst (v := 1) hx hb dX9_bits_14 (by decide) ?_
        refine lv_iand hx hb dX9_bits_15 ?_
        refine lv_iadd hx hb dX9_bits_16 ?_
        refine lv_istore_n (lv' := [(1, .int (v1 + ((x0 >>> (v2 &&& 31)) &&& (1 : Int32)))), (0, .int x0), (2, .int v2)]) hx hb dX9_bits_17 rfl hl (by decide) rfl (fun ls hl => ?_)
        refine lv_iinc (v := (v2 + (1 : Int32))) (lv' := [(2, .int (v2 + (1 : Int32))), (1, .int (v1 + ((x0 >>> (v2 &&& 31)) &&& (1 : Int32)))), (0, .int x0)]) hx hb dX9_bits_18 hl (k := 2) rfl rfl (by decide) rfl (fun ls hl => ?_)
        refine lv_goto (tgt := 4) hx hb dX9_bits_21 (by decide) ?_
        exact ih4 (v1 + ((x0 >>> (v2 &&& 31)) &&& (1 : Int32))) (v2 + (1 : Int32)) _ _ hP hS ls (lv_sub hl [2, 1, 0] rfl) hF
  refine lv_istore_n (lv' := [(2, .int (0 : Int32)), (1, .int (0 : Int32)), (0, .int x0)]) hx hb dX9_bits_3 rfl hl (by decide) rfl (fun ls hl => ?_)
  exact J4 fu (0 : Int32) (0 : Int32) _ _ hP hS ls (lv_sub hl [2, 1, 0] rfl) hF
def f_X9_lasts (x0 : Int32) (x1 : Int32) : Int32 := (if x0 = (1 : Int32) then (((10 : Int32) + x1) / (2 : Int32)) else if x0 = (2 : Int32) then ((4 : Int32) * ((10 : Int32) + x1)) else if x0 = (3 : Int32) then (((10 : Int32) + x1) + (30 : Int32)) else if x0 = (4 : Int32) then x1 else if x0 = (5 : Int32) then ((((10 : Int32) + x1) / (2 : Int32)) + (20 : Int32)) else if x0 = (6 : Int32) then ((2 : Int32) * ((10 : Int32) + x1)) else if x0 = (7 : Int32) then ((((10 : Int32) + x1) / (2 : Int32)) + (1 : Int32)) else ((10 : Int32) + x1))
set_option maxRecDepth 100000 in
set_option maxHeartbeats 4000000 in
theorem t_X9_lasts (l : Launch) (G : GT) (hG : Dw G) (x0 : Int32) (x1 : Int32) (σ : St) : Ct l G yX9_lasts wsX9_lasts 0 0 [.int x0, .int x1] σ (some (.int (f_X9_lasts x0 x1))) σ := by
  obtain ⟨o, hF⟩ : ∃ o, f_X9_lasts x0 x1 = o := ⟨_, rfl⟩
  rw [hF]
  refine Met.ofW (cc := cX9_lasts) (maxL := 3) (ret := (some .int)) (by decide) rfl ?_
  intro p e s m args below meth c s₁ B hml hv
  obtain ⟨rfl, hP, hK⟩ := hv
  have hx := B.exec
  have hb := B.bytes
  have hr := B.returns
  have hts := atoms_spec (ws := wsX9_lasts) B.pre
  have hown : s.vm.findClass RX9 = some m.cls := findClass_of_methodNamed B.named
  have hlocks := B.notSynchronized
  have Z : CallFix p m c cX9_lasts 3 s _ wsX9_lasts RX9 := ⟨hx, hb, hml, hown, hts⟩
  have hS : va_S (AG G) s.heap s.heap [] := va_S.rf
  have hl := lv_entry ([.int x0, .int x1]) (n := 3) (Nat.le_of_ble_eq_true rfl)
  rw [lg_entry_eq]
  generalize (lg_sl ([.int x0, .int x1]) ++ List.replicate (3 - (lg_sl ([.int x0, .int x1])).length) Slot.unset).toArray = ls at hl ⊢
  have hl : lv_has ls 3 [(0, .int x0), (1, .int x1)] := hl
  unfold f_X9_lasts at hF
  refine lv_bipush (v := 10) hx hb dX9_lasts_0 (by decide) ?_
  refine lv_iload_n hx hb dX9_lasts_2 rfl (lv_at hl 1 rfl) ?_
  refine lv_iadd hx hb dX9_lasts_3 ?_
  refine lv_istore_n (lv' := [(2, .int ((10 : Int32) + x1)), (0, .int x0), (1, .int x1)]) hx hb dX9_lasts_4 rfl hl (by decide) rfl (fun ls hl => ?_)
  refine lv_iload_n hx hb dX9_lasts_5 rfl (lv_at hl 1 rfl) ?_
  by_cases c1 : x0 = (1 : Int32)
  · have hF := ite_t c1 hF
    refine lv_tableIn (off := 42) (tgt := 48) hx hb dX9_lasts_6 (by rw [c1]; decide) (by rw [c1]; decide) (by rw [c1]; rfl) (by decide) ?_
    refine lv_iload_n hx hb dX9_lasts_48 rfl (lv_at hl 0 rfl) ?_
    refine lv_iconst (v := 2) hx hb dX9_lasts_49 (by decide) ?_
    refine lv_idiv hx hb dX9_lasts_50 (by decide) ?_
    exact e_iT hx hb hr hP hS hlocks dX9_lasts_51 hF
  · have hF := ite_f c1 hF
    by_cases c2 : x0 = (2 : Int32)
    · have hF := ite_t c2 hF
      refine lv_tableIn (off := 46) (tgt := 52) hx hb dX9_lasts_6 (by rw [c2]; decide) (by rw [c2]; decide) (by rw [c2]; rfl) (by decide) ?_
      refine lv_iconst (v := 4) hx hb dX9_lasts_52 (by decide) ?_
      refine lv_iload_n hx hb dX9_lasts_53 rfl (lv_at hl 0 rfl) ?_
      refine lv_imul hx hb dX9_lasts_54 ?_
      exact e_iT hx hb hr hP hS hlocks dX9_lasts_55 hF
    · have hF := ite_f c2 hF
      by_cases c3 : x0 = (3 : Int32)
      · have hF := ite_t c3 hF
        refine lv_tableIn (off := 50) (tgt := 56) hx hb dX9_lasts_6 (by rw [c3]; decide) (by rw [c3]; decide) (by rw [c3]; rfl) (by decide) ?_
        refine lv_iload_n hx hb dX9_lasts_56 rfl (lv_at hl 0 rfl) ?_
        refine lv_bipush (v := 30) hx hb dX9_lasts_57 (by decide) ?_
        refine lv_iadd hx hb dX9_lasts_59 ?_
        exact e_iT hx hb hr hP hS hlocks dX9_lasts_60 hF
      · have hF := ite_f c3 hF
        by_cases c4 : x0 = (4 : Int32)
        · have hF := ite_t c4 hF
          refine lv_tableIn (off := 55) (tgt := 61) hx hb dX9_lasts_6 (by rw [c4]; decide) (by rw [c4]; decide) (by rw [c4]; rfl) (by decide) ?_
          refine lv_iload_n hx hb dX9_lasts_61 rfl (lv_at hl 2 rfl) ?_
          exact e_iT hx hb hr hP hS hlocks dX9_lasts_62 hF
        · have hF := ite_f c4 hF
          by_cases c5 : x0 = (5 : Int32)
          · have hF := ite_t c5 hF
            refine lv_tableIn (off := 57) (tgt := 63) hx hb dX9_lasts_6 (by rw [c5]; decide) (by rw [c5]; decide) (by rw [c5]; rfl) (by decide) ?_
            refine lv_iload_n hx hb dX9_lasts_63 rfl (lv_at hl 0 rfl) ?_
            refine lv_iconst (v := 2) hx hb dX9_lasts_64 (by decide) ?_
            refine lv_idiv hx hb dX9_lasts_65 (by decide) ?_
            refine lv_bipush (v := 20) hx hb dX9_lasts_66 (by decide) ?_
            refine lv_iadd hx hb dX9_lasts_68 ?_
            exact e_iT hx hb hr hP hS hlocks dX9_lasts_69 hF
          · have hF := ite_f c5 hF
            by_cases c6 : x0 = (6 : Int32)
            · have hF := ite_t c6 hF
              refine lv_tableIn (off := 64) (tgt := 70) hx hb dX9_lasts_6 (by rw [c6]; decide) (by rw [c6]; decide) (by rw [c6]; rfl) (by decide) ?_
              refine lv_iconst (v := 2) hx hb dX9_lasts_70 (by decide) ?_
              refine lv_iload_n hx hb dX9_lasts_71 rfl (lv_at hl 0 rfl) ?_
              refine lv_imul hx hb dX9_lasts_72 ?_
              exact e_iT hx hb hr hP hS hlocks dX9_lasts_73 hF
            · have hF := ite_f c6 hF
              by_cases c7 : x0 = (7 : Int32)
              · have hF := ite_t c7 hF
                refine lv_tableIn (off := 68) (tgt := 74) hx hb dX9_lasts_6 (by rw [c7]; decide) (by rw [c7]; decide) (by rw [c7]; rfl) (by decide) ?_
                refine lv_iload_n hx hb dX9_lasts_74 rfl (lv_at hl 0 rfl) ?_
                refine lv_iconst (v := 2) hx hb dX9_lasts_75 (by decide) ?_
                refine lv_idiv hx hb dX9_lasts_76 (by decide) ?_
                refine lv_iconst (v := 1) hx hb dX9_lasts_77 (by decide) ?_
                refine lv_iadd hx hb dX9_lasts_78 ?_
                exact e_iT hx hb hr hP hS hlocks dX9_lasts_79 hF
              · have hF := ite_f c7 hF
                have n0 := lv_neT c1 (by decide : ((1 : Int32)).toInt = 1)
                have n1 := lv_neT c2 (by decide : ((2 : Int32)).toInt = 2)
                have n2 := lv_neT c3 (by decide : ((3 : Int32)).toInt = 3)
                have n3 := lv_neT c4 (by decide : ((4 : Int32)).toInt = 4)
                have n4 := lv_neT c5 (by decide : ((5 : Int32)).toInt = 5)
                have n5 := lv_neT c6 (by decide : ((6 : Int32)).toInt = 6)
                have n6 := lv_neT c7 (by decide : ((7 : Int32)).toInt = 7)
                refine lv_tableOut (tgt := 80) hx hb dX9_lasts_6 (by omega) (by decide) ?_
                refine lv_iload_n hx hb dX9_lasts_80 rfl (lv_at hl 0 rfl) ?_
                exact e_iT hx hb hr hP hS hlocks dX9_lasts_81 hF
def f_X9_own (x0 : Int32) (x1 : Int32) : Int32 := (if x0 = (1 : Int32) then ((3 : Int32) * (f_X9_lasts x0 x1)) else if x0 = (2 : Int32) then ((f_X9_lasts x0 x1) / (2 : Int32)) else if x0 = (3 : Int32) then (f_X9_lasts x0 x1) else if x0 = (4 : Int32) then (f_X9_lasts x0 x1) else if x0 = (5 : Int32) then ((365 : Int32)) else if x0 = (6 : Int32) then ((0 : Int32)) else if x0 = (7 : Int32) then ((3 : Int32) * (f_X9_lasts x0 x1)) else (f_X9_lasts x0 x1))
set_option maxRecDepth 100000 in
set_option maxHeartbeats 4000000 in
theorem t_X9_own (l : Launch) (G : GT) (hG : Dw G) (x0 : Int32) (x1 : Int32) (σ : St) : Ct l G yX9_own wsX9_own 1 22 [.int x0, .int x1] σ (some (.int (f_X9_own x0 x1))) σ := by
  obtain ⟨o, hF⟩ : ∃ o, f_X9_own x0 x1 = o := ⟨_, rfl⟩
  rw [hF]
  refine Met.ofW (cc := cX9_own) (maxL := 2) (ret := (some .int)) (by decide) rfl ?_
  intro p e s m args below meth c s₁ B hml hv
  obtain ⟨rfl, hP, hK⟩ := hv
  have hx := B.exec
  have hb := B.bytes
  have hr := B.returns
  have hts := atoms_spec (ws := wsX9_own) B.pre
  have hown : s.vm.findClass RX9 = some m.cls := findClass_of_methodNamed B.named
  have hlocks := B.notSynchronized
  have Z : CallFix p m c cX9_own 2 s _ wsX9_own RX9 := ⟨hx, hb, hml, hown, hts⟩
  have hS : va_S (AG G) s.heap s.heap [] := va_S.rf
  have hl := lv_entry ([.int x0, .int x1]) (n := 2) (Nat.le_of_ble_eq_true rfl)
  rw [lg_entry_eq]
  generalize (lg_sl ([.int x0, .int x1]) ++ List.replicate (2 - (lg_sl ([.int x0, .int x1])).length) Slot.unset).toArray = ls at hl ⊢
  have hl : lv_has ls 2 [(0, .int x0), (1, .int x1)] := hl
  unfold f_X9_own at hF
  refine lv_iload_n hx hb dX9_own_0 rfl (lv_at hl 0 rfl) ?_
  by_cases c1 : x0 = (1 : Int32)
  · have hF := ite_t c1 hF
    refine lv_tableIn (off := 43) (tgt := 44) hx hb dX9_own_1 (by rw [c1]; decide) (by rw [c1]; decide) (by rw [c1]; rfl) (by decide) ?_
    refine lv_iconst (v := 3) hx hb dX9_own_44 (by decide) ?_
    refine lv_iload_n hx hb dX9_own_45 rfl (lv_at hl 0 rfl) ?_
    refine lv_iload_n hx hb dX9_own_46 rfl (lv_at hl 1 rfl) ?_
    refine k_Sv (As := [.int x0, .int x1]) (rest := [.int (3 : Int32)]) Z hK hP hS (t_X9_lasts l G hG x0 x1 σ) (va_cwS 2 hts gX9_own_X9_lasts rfl rfl rfl (by decide +kernel) ⟨Nat.le_of_ble_eq_true rfl, Nat.le_of_ble_eq_true rfl⟩) rfl hl.1 rfl (Nat.le_of_ble_eq_true rfl) ⟨Nat.zero_le _, Nat.zero_le _⟩ dX9_own_47 (fun H locs hP hS => ?_)
    refine lv_imul hx hb dX9_own_50 ?_
    exact e_iT hx hb hr hP hS hlocks dX9_own_51 hF
  · have hF := ite_f c1 hF
    by_cases c2 : x0 = (2 : Int32)
    · have hF := ite_t c2 hF
      refine lv_tableIn (off := 51) (tgt := 52) hx hb dX9_own_1 (by rw [c2]; decide) (by rw [c2]; decide) (by rw [c2]; rfl) (by decide) ?_
      refine lv_iload_n hx hb dX9_own_52 rfl (lv_at hl 0 rfl) ?_
      refine lv_iload_n hx hb dX9_own_53 rfl (lv_at hl 1 rfl) ?_
      refine k_Sv (As := [.int x0, .int x1]) (rest := []) Z hK hP hS (t_X9_lasts l G hG x0 x1 σ) (va_cwS 2 hts gX9_own_X9_lasts rfl rfl rfl (by decide +kernel) ⟨Nat.le_of_ble_eq_true rfl, Nat.le_of_ble_eq_true rfl⟩) rfl hl.1 rfl (Nat.le_of_ble_eq_true rfl) ⟨Nat.zero_le _, Nat.zero_le _⟩ dX9_own_54 (fun H locs hP hS => ?_)
      refine lv_iconst (v := 2) hx hb dX9_own_57 (by decide) ?_
      refine lv_idiv hx hb dX9_own_58 (by decide) ?_
      exact e_iT hx hb hr hP hS hlocks dX9_own_59 hF
    · have hF := ite_f c2 hF
      by_cases c3 : x0 = (3 : Int32)
      · have hF := ite_t c3 hF
        refine lv_tableIn (off := 65) (tgt := 66) hx hb dX9_own_1 (by rw [c3]; decide) (by rw [c3]; decide) (by rw [c3]; rfl) (by decide) ?_
        refine lv_iload_n hx hb dX9_own_66 rfl (lv_at hl 0 rfl) ?_
        refine lv_iload_n hx hb dX9_own_67 rfl (lv_at hl 1 rfl) ?_
        refine k_Sv (As := [.int x0, .int x1]) (rest := []) Z hK hP hS (t_X9_lasts l G hG x0 x1 σ) (va_cwS 2 hts gX9_own_X9_lasts rfl rfl rfl (by decide +kernel) ⟨Nat.le_of_ble_eq_true rfl, Nat.le_of_ble_eq_true rfl⟩) rfl hl.1 rfl (Nat.le_of_ble_eq_true rfl) ⟨Nat.zero_le _, Nat.zero_le _⟩ dX9_own_68 (fun H locs hP hS => ?_)
        exact e_iT hx hb hr hP hS hlocks dX9_own_71 hF
      · have hF := ite_f c3 hF
        by_cases c4 : x0 = (4 : Int32)
        · have hF := ite_t c4 hF
          refine lv_tableIn (off := 65) (tgt := 66) hx hb dX9_own_1 (by rw [c4]; decide) (by rw [c4]; decide) (by rw [c4]; rfl) (by decide) ?_
          refine lv_iload_n hx hb dX9_own_66 rfl (lv_at hl 0 rfl) ?_
          refine lv_iload_n hx hb dX9_own_67 rfl (lv_at hl 1 rfl) ?_
          refine k_Sv (As := [.int x0, .int x1]) (rest := []) Z hK hP hS (t_X9_lasts l G hG x0 x1 σ) (va_cwS 2 hts gX9_own_X9_lasts rfl rfl rfl (by decide +kernel) ⟨Nat.le_of_ble_eq_true rfl, Nat.le_of_ble_eq_true rfl⟩) rfl hl.1 rfl (Nat.le_of_ble_eq_true rfl) ⟨Nat.zero_le _, Nat.zero_le _⟩ dX9_own_68 (fun H locs hP hS => ?_)
          exact e_iT hx hb hr hP hS hlocks dX9_own_71 hF
        · have hF := ite_f c4 hF
          by_cases c5 : x0 = (5 : Int32)
          · have hF := ite_t c5 hF
            refine lv_tableIn (off := 59) (tgt := 60) hx hb dX9_own_1 (by rw [c5]; decide) (by rw [c5]; decide) (by rw [c5]; rfl) (by decide) ?_
            refine lv_sipush (v := 365) hx hb dX9_own_60 (by decide) ?_
            exact e_iT hx hb hr hP hS hlocks dX9_own_63 hF
          · have hF := ite_f c5 hF
            by_cases c6 : x0 = (6 : Int32)
            · have hF := ite_t c6 hF
              refine lv_tableIn (off := 63) (tgt := 64) hx hb dX9_own_1 (by rw [c6]; decide) (by rw [c6]; decide) (by rw [c6]; rfl) (by decide) ?_
              refine lv_iconst (v := 0) hx hb dX9_own_64 (by decide) ?_
              exact e_iT hx hb hr hP hS hlocks dX9_own_65 hF
            · have hF := ite_f c6 hF
              by_cases c7 : x0 = (7 : Int32)
              · have hF := ite_t c7 hF
                refine lv_tableIn (off := 43) (tgt := 44) hx hb dX9_own_1 (by rw [c7]; decide) (by rw [c7]; decide) (by rw [c7]; rfl) (by decide) ?_
                refine lv_iconst (v := 3) hx hb dX9_own_44 (by decide) ?_
                refine lv_iload_n hx hb dX9_own_45 rfl (lv_at hl 0 rfl) ?_
                refine lv_iload_n hx hb dX9_own_46 rfl (lv_at hl 1 rfl) ?_
                refine k_Sv (As := [.int x0, .int x1]) (rest := [.int (3 : Int32)]) Z hK hP hS (t_X9_lasts l G hG x0 x1 σ) (va_cwS 2 hts gX9_own_X9_lasts rfl rfl rfl (by decide +kernel) ⟨Nat.le_of_ble_eq_true rfl, Nat.le_of_ble_eq_true rfl⟩) rfl hl.1 rfl (Nat.le_of_ble_eq_true rfl) ⟨Nat.zero_le _, Nat.zero_le _⟩ dX9_own_47 (fun H locs hP hS => ?_)
                refine lv_imul hx hb dX9_own_50 ?_
                exact e_iT hx hb hr hP hS hlocks dX9_own_51 hF
              · have hF := ite_f c7 hF
                have n0 := lv_neT c1 (by decide : ((1 : Int32)).toInt = 1)
                have n1 := lv_neT c2 (by decide : ((2 : Int32)).toInt = 2)
                have n2 := lv_neT c3 (by decide : ((3 : Int32)).toInt = 3)
                have n3 := lv_neT c4 (by decide : ((4 : Int32)).toInt = 4)
                have n4 := lv_neT c5 (by decide : ((5 : Int32)).toInt = 5)
                have n5 := lv_neT c6 (by decide : ((6 : Int32)).toInt = 6)
                have n6 := lv_neT c7 (by decide : ((7 : Int32)).toInt = 7)
                refine lv_tableOut (tgt := 66) hx hb dX9_own_1 (by omega) (by decide) ?_
                refine lv_iload_n hx hb dX9_own_66 rfl (lv_at hl 0 rfl) ?_
                refine lv_iload_n hx hb dX9_own_67 rfl (lv_at hl 1 rfl) ?_
                refine k_Sv (As := [.int x0, .int x1]) (rest := []) Z hK hP hS (t_X9_lasts l G hG x0 x1 σ) (va_cwS 2 hts gX9_own_X9_lasts rfl rfl rfl (by decide +kernel) ⟨Nat.le_of_ble_eq_true rfl, Nat.le_of_ble_eq_true rfl⟩) rfl hl.1 rfl (Nat.le_of_ble_eq_true rfl) ⟨Nat.zero_le _, Nat.zero_le _⟩ dX9_own_68 (fun H locs hP hS => ?_)
                exact e_iT hx hb hr hP hS hlocks dX9_own_71 hF
def f_X9_points (x0 : Int32) (x1 : Int32) : Int32 := (if x0 = (1 : Int32) then ((6 : Int32)) else if x0 = (2 : Int32) then ((12 : Int32)) else if x0 = (3 : Int32) then ((10 : Int32)) else if x0 = (4 : Int32) then x1 else if x0 = (5 : Int32) then ((12 : Int32)) else if x0 = (6 : Int32) then ((12 : Int32)) else if x0 = (7 : Int32) then ((5 : Int32)) else ((10 : Int32)))
set_option maxRecDepth 100000 in
set_option maxHeartbeats 4000000 in
theorem t_X9_points (l : Launch) (G : GT) (hG : Dw G) (x0 : Int32) (x1 : Int32) (σ : St) : Ct l G yX9_points wsX9_points 0 0 [.int x0, .int x1] σ (some (.int (f_X9_points x0 x1))) σ := by
  obtain ⟨o, hF⟩ : ∃ o, f_X9_points x0 x1 = o := ⟨_, rfl⟩
  rw [hF]
  refine Met.ofW (cc := cX9_points) (maxL := 2) (ret := (some .int)) (by decide) rfl ?_
  intro p e s m args below meth c s₁ B hml hv
  obtain ⟨rfl, hP, hK⟩ := hv
  have hx := B.exec
  have hb := B.bytes
  have hr := B.returns
  have hts := atoms_spec (ws := wsX9_points) B.pre
  have hown : s.vm.findClass RX9 = some m.cls := findClass_of_methodNamed B.named
  have hlocks := B.notSynchronized
  have Z : CallFix p m c cX9_points 2 s _ wsX9_points RX9 := ⟨hx, hb, hml, hown, hts⟩
  have hS : va_S (AG G) s.heap s.heap [] := va_S.rf
  have hl := lv_entry ([.int x0, .int x1]) (n := 2) (Nat.le_of_ble_eq_true rfl)
  rw [lg_entry_eq]
  generalize (lg_sl ([.int x0, .int x1]) ++ List.replicate (2 - (lg_sl ([.int x0, .int x1])).length) Slot.unset).toArray = ls at hl ⊢
  have hl : lv_has ls 2 [(0, .int x0), (1, .int x1)] := hl
  unfold f_X9_points at hF
  refine lv_iload_n hx hb dX9_points_0 rfl (lv_at hl 0 rfl) ?_
  by_cases c1 : x0 = (1 : Int32)
  · have hF := ite_t c1 hF
    refine lv_tableIn (off := 43) (tgt := 44) hx hb dX9_points_1 (by rw [c1]; decide) (by rw [c1]; decide) (by rw [c1]; rfl) (by decide) ?_
    refine lv_bipush (v := 6) hx hb dX9_points_44 (by decide) ?_
    exact e_iT hx hb hr hP hS hlocks dX9_points_46 hF
  · have hF := ite_f c1 hF
    by_cases c2 : x0 = (2 : Int32)
    · have hF := ite_t c2 hF
      refine lv_tableIn (off := 46) (tgt := 47) hx hb dX9_points_1 (by rw [c2]; decide) (by rw [c2]; decide) (by rw [c2]; rfl) (by decide) ?_
      refine lv_bipush (v := 12) hx hb dX9_points_47 (by decide) ?_
      exact e_iT hx hb hr hP hS hlocks dX9_points_49 hF
    · have hF := ite_f c2 hF
      by_cases c3 : x0 = (3 : Int32)
      · have hF := ite_t c3 hF
        refine lv_tableIn (off := 53) (tgt := 54) hx hb dX9_points_1 (by rw [c3]; decide) (by rw [c3]; decide) (by rw [c3]; rfl) (by decide) ?_
        refine lv_bipush (v := 10) hx hb dX9_points_54 (by decide) ?_
        exact e_iT hx hb hr hP hS hlocks dX9_points_56 hF
      · have hF := ite_f c3 hF
        by_cases c4 : x0 = (4 : Int32)
        · have hF := ite_t c4 hF
          refine lv_tableIn (off := 49) (tgt := 50) hx hb dX9_points_1 (by rw [c4]; decide) (by rw [c4]; decide) (by rw [c4]; rfl) (by decide) ?_
          refine lv_iload_n hx hb dX9_points_50 rfl (lv_at hl 1 rfl) ?_
          exact e_iT hx hb hr hP hS hlocks dX9_points_51 hF
        · have hF := ite_f c4 hF
          by_cases c5 : x0 = (5 : Int32)
          · have hF := ite_t c5 hF
            refine lv_tableIn (off := 46) (tgt := 47) hx hb dX9_points_1 (by rw [c5]; decide) (by rw [c5]; decide) (by rw [c5]; rfl) (by decide) ?_
            refine lv_bipush (v := 12) hx hb dX9_points_47 (by decide) ?_
            exact e_iT hx hb hr hP hS hlocks dX9_points_49 hF
          · have hF := ite_f c5 hF
            by_cases c6 : x0 = (6 : Int32)
            · have hF := ite_t c6 hF
              refine lv_tableIn (off := 46) (tgt := 47) hx hb dX9_points_1 (by rw [c6]; decide) (by rw [c6]; decide) (by rw [c6]; rfl) (by decide) ?_
              refine lv_bipush (v := 12) hx hb dX9_points_47 (by decide) ?_
              exact e_iT hx hb hr hP hS hlocks dX9_points_49 hF
            · have hF := ite_f c6 hF
              by_cases c7 : x0 = (7 : Int32)
              · have hF := ite_t c7 hF
                refine lv_tableIn (off := 51) (tgt := 52) hx hb dX9_points_1 (by rw [c7]; decide) (by rw [c7]; decide) (by rw [c7]; rfl) (by decide) ?_
                refine lv_iconst (v := 5) hx hb dX9_points_52 (by decide) ?_
                exact e_iT hx hb hr hP hS hlocks dX9_points_53 hF
              · have hF := ite_f c7 hF
                have n0 := lv_neT c1 (by decide : ((1 : Int32)).toInt = 1)
                have n1 := lv_neT c2 (by decide : ((2 : Int32)).toInt = 2)
                have n2 := lv_neT c3 (by decide : ((3 : Int32)).toInt = 3)
                have n3 := lv_neT c4 (by decide : ((4 : Int32)).toInt = 4)
                have n4 := lv_neT c5 (by decide : ((5 : Int32)).toInt = 5)
                have n5 := lv_neT c6 (by decide : ((6 : Int32)).toInt = 6)
                have n6 := lv_neT c7 (by decide : ((7 : Int32)).toInt = 7)
                refine lv_tableOut (tgt := 54) hx hb dX9_points_1 (by omega) (by decide) ?_
                refine lv_bipush (v := 10) hx hb dX9_points_54 (by decide) ?_
                exact e_iT hx hb hr hP hS hlocks dX9_points_56 hF
def f_X9_guiltBy (x0 : Int32) (x1 : Int32) : Int32 := (if x0 = (1 : Int32) then ((-1 : Int32)) else if x0 = (2 : Int32) then (x1 + (1 : Int32)) else if x0 = (3 : Int32) then ((0 : Int32)) else if x0 = (4 : Int32) then ((0 : Int32)) else if x0 = (5 : Int32) then ((-3 : Int32)) else if x0 = (6 : Int32) then ((2 : Int32) * (x1 + (1 : Int32))) else if x0 = (7 : Int32) then ((-1 : Int32)) else ((0 : Int32)))
set_option maxRecDepth 100000 in
set_option maxHeartbeats 4000000 in
theorem t_X9_guiltBy (l : Launch) (G : GT) (hG : Dw G) (x0 : Int32) (x1 : Int32) (σ : St) : Ct l G yX9_guiltBy wsX9_guiltBy 0 0 [.int x0, .int x1] σ (some (.int (f_X9_guiltBy x0 x1))) σ := by
  obtain ⟨o, hF⟩ : ∃ o, f_X9_guiltBy x0 x1 = o := ⟨_, rfl⟩
  rw [hF]
  refine Met.ofW (cc := cX9_guiltBy) (maxL := 2) (ret := (some .int)) (by decide) rfl ?_
  intro p e s m args below meth c s₁ B hml hv
  obtain ⟨rfl, hP, hK⟩ := hv
  have hx := B.exec
  have hb := B.bytes
  have hr := B.returns
  have hts := atoms_spec (ws := wsX9_guiltBy) B.pre
  have hown : s.vm.findClass RX9 = some m.cls := findClass_of_methodNamed B.named
  have hlocks := B.notSynchronized
  have Z : CallFix p m c cX9_guiltBy 2 s _ wsX9_guiltBy RX9 := ⟨hx, hb, hml, hown, hts⟩
  have hS : va_S (AG G) s.heap s.heap [] := va_S.rf
  have hl := lv_entry ([.int x0, .int x1]) (n := 2) (Nat.le_of_ble_eq_true rfl)
  rw [lg_entry_eq]
  generalize (lg_sl ([.int x0, .int x1]) ++ List.replicate (2 - (lg_sl ([.int x0, .int x1])).length) Slot.unset).toArray = ls at hl ⊢
  have hl : lv_has ls 2 [(0, .int x0), (1, .int x1)] := hl
  unfold f_X9_guiltBy at hF
  refine lv_iload_n hx hb dX9_guiltBy_0 rfl (lv_at hl 0 rfl) ?_
  by_cases c1 : x0 = (1 : Int32)
  · have hF := ite_t c1 hF
    refine lv_tableIn (off := 43) (tgt := 44) hx hb dX9_guiltBy_1 (by rw [c1]; decide) (by rw [c1]; decide) (by rw [c1]; rfl) (by decide) ?_
    refine lv_iconst (v := -1) hx hb dX9_guiltBy_44 (by decide) ?_
    exact e_iT hx hb hr hP hS hlocks dX9_guiltBy_45 hF
  · have hF := ite_f c1 hF
    by_cases c2 : x0 = (2 : Int32)
    · have hF := ite_t c2 hF
      refine lv_tableIn (off := 45) (tgt := 46) hx hb dX9_guiltBy_1 (by rw [c2]; decide) (by rw [c2]; decide) (by rw [c2]; rfl) (by decide) ?_
      refine lv_iload_n hx hb dX9_guiltBy_46 rfl (lv_at hl 1 rfl) ?_
      refine lv_iconst (v := 1) hx hb dX9_guiltBy_47 (by decide) ?_
      refine lv_iadd hx hb dX9_guiltBy_48 ?_
      exact e_iT hx hb hr hP hS hlocks dX9_guiltBy_49 hF
    · have hF := ite_f c2 hF
      by_cases c3 : x0 = (3 : Int32)
      · have hF := ite_t c3 hF
        refine lv_tableIn (off := 58) (tgt := 59) hx hb dX9_guiltBy_1 (by rw [c3]; decide) (by rw [c3]; decide) (by rw [c3]; rfl) (by decide) ?_
        refine lv_iconst (v := 0) hx hb dX9_guiltBy_59 (by decide) ?_
        exact e_iT hx hb hr hP hS hlocks dX9_guiltBy_60 hF
      · have hF := ite_f c3 hF
        by_cases c4 : x0 = (4 : Int32)
        · have hF := ite_t c4 hF
          refine lv_tableIn (off := 58) (tgt := 59) hx hb dX9_guiltBy_1 (by rw [c4]; decide) (by rw [c4]; decide) (by rw [c4]; rfl) (by decide) ?_
          refine lv_iconst (v := 0) hx hb dX9_guiltBy_59 (by decide) ?_
          exact e_iT hx hb hr hP hS hlocks dX9_guiltBy_60 hF
        · have hF := ite_f c4 hF
          by_cases c5 : x0 = (5 : Int32)
          · have hF := ite_t c5 hF
            refine lv_tableIn (off := 49) (tgt := 50) hx hb dX9_guiltBy_1 (by rw [c5]; decide) (by rw [c5]; decide) (by rw [c5]; rfl) (by decide) ?_
            refine lv_bipush (v := -3) hx hb dX9_guiltBy_50 (by decide) ?_
            exact e_iT hx hb hr hP hS hlocks dX9_guiltBy_52 hF
          · have hF := ite_f c5 hF
            by_cases c6 : x0 = (6 : Int32)
            · have hF := ite_t c6 hF
              refine lv_tableIn (off := 52) (tgt := 53) hx hb dX9_guiltBy_1 (by rw [c6]; decide) (by rw [c6]; decide) (by rw [c6]; rfl) (by decide) ?_
              refine lv_iconst (v := 2) hx hb dX9_guiltBy_53 (by decide) ?_
              refine lv_iload_n hx hb dX9_guiltBy_54 rfl (lv_at hl 1 rfl) ?_
              refine lv_iconst (v := 1) hx hb dX9_guiltBy_55 (by decide) ?_
              refine lv_iadd hx hb dX9_guiltBy_56 ?_
              refine lv_imul hx hb dX9_guiltBy_57 ?_
              exact e_iT hx hb hr hP hS hlocks dX9_guiltBy_58 hF
            · have hF := ite_f c6 hF
              by_cases c7 : x0 = (7 : Int32)
              · have hF := ite_t c7 hF
                refine lv_tableIn (off := 43) (tgt := 44) hx hb dX9_guiltBy_1 (by rw [c7]; decide) (by rw [c7]; decide) (by rw [c7]; rfl) (by decide) ?_
                refine lv_iconst (v := -1) hx hb dX9_guiltBy_44 (by decide) ?_
                exact e_iT hx hb hr hP hS hlocks dX9_guiltBy_45 hF
              · have hF := ite_f c7 hF
                have n0 := lv_neT c1 (by decide : ((1 : Int32)).toInt = 1)
                have n1 := lv_neT c2 (by decide : ((2 : Int32)).toInt = 2)
                have n2 := lv_neT c3 (by decide : ((3 : Int32)).toInt = 3)
                have n3 := lv_neT c4 (by decide : ((4 : Int32)).toInt = 4)
                have n4 := lv_neT c5 (by decide : ((5 : Int32)).toInt = 5)
                have n5 := lv_neT c6 (by decide : ((6 : Int32)).toInt = 6)
                have n6 := lv_neT c7 (by decide : ((7 : Int32)).toInt = 7)
                refine lv_tableOut (tgt := 59) hx hb dX9_guiltBy_1 (by omega) (by decide) ?_
                refine lv_iconst (v := 0) hx hb dX9_guiltBy_59 (by decide) ?_
                exact e_iT hx hb hr hP hS hlocks dX9_guiltBy_60 hF
def f_X9_sizeOf (i0 : Nat) (x1 : Int32) (σ : St) : Option Int32 := (if inb (f_X9_of x1 (0 : Int32)) 52 then if inb (f_X9_of x1 (1 : Int32)) 52 then some (f_X9_points (σ i0 (f_X9_of x1 (0 : Int32)).toNatClampNeg) (σ i0 (f_X9_of x1 (1 : Int32)).toNatClampNeg)) else none else none)
set_option maxRecDepth 100000 in
set_option maxHeartbeats 4000000 in
theorem t_X9_sizeOf (l : Launch) (G : GT) (hG : Dw G) (i0 : Nat) (x1 : Int32) (hk0 : kd i0 = 6 ∧ ln i0 = 52) (σ : St) (o : Int32) (hF : f_X9_sizeOf i0 x1 σ = some o) : Ct l G yX9_sizeOf wsX9_sizeOf 1 21 [.ref (gA G i0), .int x1] σ (some (.int o)) σ := by
  refine Met.ofW (cc := cX9_sizeOf) (maxL := 2) (ret := (some .int)) (by decide) rfl ?_
  intro p e s m args below meth c s₁ B hml hv
  obtain ⟨rfl, hP, hK⟩ := hv
  have hx := B.exec
  have hb := B.bytes
  have hr := B.returns
  have hts := atoms_spec (ws := wsX9_sizeOf) B.pre
  have hown : s.vm.findClass RX9 = some m.cls := findClass_of_methodNamed B.named
  have hlocks := B.notSynchronized
  have Z : CallFix p m c cX9_sizeOf 2 s _ wsX9_sizeOf RX9 := ⟨hx, hb, hml, hown, hts⟩
  have hS : va_S (AG G) s.heap s.heap [] := va_S.rf
  have hl := lv_entry ([.ref (gA G i0), .int x1]) (n := 2) (Nat.le_of_ble_eq_true rfl)
  rw [lg_entry_eq]
  generalize (lg_sl ([.ref (gA G i0), .int x1]) ++ List.replicate (2 - (lg_sl ([.ref (gA G i0), .int x1])).length) Slot.unset).toArray = ls at hl ⊢
  have hl : lv_has ls 2 [(0, .ref (gA G i0)), (1, .int x1)] := hl
  unfold f_X9_sizeOf at hF
  refine lv_aload_n hx hb dX9_sizeOf_0 rfl (lv_at hl 0 rfl) ?_
  refine lv_iload_n hx hb dX9_sizeOf_1 rfl (lv_at hl 1 rfl) ?_
  refine lv_iconst (v := 0) hx hb dX9_sizeOf_2 (by decide) ?_
  refine k_Sv (As := [.int x1, .int (0 : Int32)]) (rest := [.ref (gA G i0)]) Z hK hP hS (t_X9_of l G hG x1 (0 : Int32) σ) (va_cwS 2 hts gX9_sizeOf_X9_of rfl rfl rfl (by decide +kernel) ⟨Nat.le_of_ble_eq_true rfl, Nat.le_of_ble_eq_true rfl⟩) rfl hl.1 rfl (Nat.le_of_ble_eq_true rfl) ⟨Nat.zero_le _, Nat.zero_le _⟩ dX9_sizeOf_3 (fun H locs hP hS => ?_)
  obtain ⟨b1, hF⟩ := ite_some hF
  refine va_iald hx hb hK.1 hP i0 0 (at_6 hk0.1 hk0.2) rfl (inb_in b1) dX9_sizeOf_6 ?_
  refine lv_aload_n hx hb dX9_sizeOf_7 rfl (lv_at hl 0 rfl) ?_
  refine lv_iload_n hx hb dX9_sizeOf_8 rfl (lv_at hl 1 rfl) ?_
  refine lv_iconst (v := 1) hx hb dX9_sizeOf_9 (by decide) ?_
  refine k_Sv (As := [.int x1, .int (1 : Int32)]) (rest := [.ref (gA G i0), .int (σ i0 (f_X9_of x1 (0 : Int32)).toNatClampNeg)]) Z hK hP hS (t_X9_of l G hG x1 (1 : Int32) σ) (va_cwS 2 hts gX9_sizeOf_X9_of rfl rfl rfl (by decide +kernel) ⟨Nat.le_of_ble_eq_true rfl, Nat.le_of_ble_eq_true rfl⟩) rfl hl.1 rfl (Nat.le_of_ble_eq_true rfl) ⟨Nat.zero_le _, Nat.zero_le _⟩ dX9_sizeOf_10 (fun H locs hP hS => ?_)
  obtain ⟨b2, hF⟩ := ite_some hF
  refine va_iald hx hb hK.1 hP i0 0 (at_6 hk0.1 hk0.2) rfl (inb_in b2) dX9_sizeOf_13 ?_
  refine k_Sv (As := [.int (σ i0 (f_X9_of x1 (0 : Int32)).toNatClampNeg), .int (σ i0 (f_X9_of x1 (1 : Int32)).toNatClampNeg)]) (rest := []) Z hK hP hS (t_X9_points l G hG (σ i0 (f_X9_of x1 (0 : Int32)).toNatClampNeg) (σ i0 (f_X9_of x1 (1 : Int32)).toNatClampNeg) σ) (va_cwS 2 hts gX9_sizeOf_X9_points rfl rfl rfl (by decide +kernel) ⟨Nat.le_of_ble_eq_true rfl, Nat.le_of_ble_eq_true rfl⟩) rfl hl.1 rfl (Nat.le_of_ble_eq_true rfl) ⟨Nat.zero_le _, Nat.zero_le _⟩ dX9_sizeOf_14 (fun H locs hP hS => ?_)
  exact e_iP hx hb hr hP hS hlocks dX9_sizeOf_17 hF
def f_X9_isTold (i0 : Nat) (x1 : Int32) (σ : St) : Option Bool := (if inb (f_X9_of x1 (2 : Int32)) 52 then if (σ i0 1) < (σ i0 (f_X9_of x1 (2 : Int32)).toNatClampNeg) then (some false) else (some true) else none)
set_option maxRecDepth 100000 in
set_option maxHeartbeats 4000000 in
theorem t_X9_isTold (l : Launch) (G : GT) (hG : Dw G) (i0 : Nat) (x1 : Int32) (hk0 : kd i0 = 6 ∧ ln i0 = 52) (σ : St) (o : Bool) (hF : f_X9_isTold i0 x1 σ = some o) : Ct l G yX9_isTold wsX9_isTold 1 21 [.ref (gA G i0), .int x1] σ (some (.int (b2i o))) σ := by
  refine Met.ofW (cc := cX9_isTold) (maxL := 2) (ret := (some .boolean)) (by decide) rfl ?_
  intro p e s m args below meth c s₁ B hml hv
  obtain ⟨rfl, hP, hK⟩ := hv
  have hx := B.exec
  have hb := B.bytes
  have hr := B.returns
  have hts := atoms_spec (ws := wsX9_isTold) B.pre
  have hown : s.vm.findClass RX9 = some m.cls := findClass_of_methodNamed B.named
  have hlocks := B.notSynchronized
  have Z : CallFix p m c cX9_isTold 2 s _ wsX9_isTold RX9 := ⟨hx, hb, hml, hown, hts⟩
  have hS : va_S (AG G) s.heap s.heap [] := va_S.rf
  have hl := lv_entry ([.ref (gA G i0), .int x1]) (n := 2) (Nat.le_of_ble_eq_true rfl)
  rw [lg_entry_eq]
  generalize (lg_sl ([.ref (gA G i0), .int x1]) ++ List.replicate (2 - (lg_sl ([.ref (gA G i0), .int x1])).length) Slot.unset).toArray = ls at hl ⊢
  have hl : lv_has ls 2 [(0, .ref (gA G i0)), (1, .int x1)] := hl
  unfold f_X9_isTold at hF
  refine lv_aload_n hx hb dX9_isTold_0 rfl (lv_at hl 0 rfl) ?_
  refine lv_iload_n hx hb dX9_isTold_1 rfl (lv_at hl 1 rfl) ?_
  refine lv_iconst (v := 2) hx hb dX9_isTold_2 (by decide) ?_
  refine k_Sv (As := [.int x1, .int (2 : Int32)]) (rest := [.ref (gA G i0)]) Z hK hP hS (t_X9_of l G hG x1 (2 : Int32) σ) (va_cwS 2 hts gX9_isTold_X9_of rfl rfl rfl (by decide +kernel) ⟨Nat.le_of_ble_eq_true rfl, Nat.le_of_ble_eq_true rfl⟩) rfl hl.1 rfl (Nat.le_of_ble_eq_true rfl) ⟨Nat.zero_le _, Nat.zero_le _⟩ dX9_isTold_3 (fun H locs hP hS => ?_)
  obtain ⟨b1, hF⟩ := ite_some hF
  refine va_iald hx hb hK.1 hP i0 0 (at_6 hk0.1 hk0.2) rfl (inb_in b1) dX9_isTold_6 ?_
  refine lv_aload_n hx hb dX9_isTold_7 rfl (lv_at hl 0 rfl) ?_
  refine lv_iconst (v := 1) hx hb dX9_isTold_8 (by decide) ?_
  refine va_iald hx hb hK.1 hP i0 0 (at_6 hk0.1 hk0.2) rfl (inb_in (by decide)) dX9_isTold_9 ?_
  refine W.eq (g2 := F0 m 10 ls ([.int (σ i0 1), .int (σ i0 (f_X9_of x1 (2 : Int32)).toNatClampNeg)])) rfl ?_
  refine lv_icmp_gt (tgt := 17) hx hb dX9_isTold_10 (by decide) (fun c2 => ?_) (fun c2 => ?_)
  · have hF := ite_t c2 hF
    refine lv_iconst (v := 0) hx hb dX9_isTold_17 (by decide) ?_
    exact e_zP (b := false) hx hb hr hP hS hlocks dX9_isTold_18 rfl hF
  · have hF := ite_f c2 hF
    refine lv_iconst (v := 1) hx hb dX9_isTold_13 (by decide) ?_
    refine lv_goto (tgt := 18) hx hb dX9_isTold_14 (by decide) ?_
    exact e_zP (b := true) hx hb hr hP hS hlocks dX9_isTold_18 rfl hF
def f_X9_wasThere_25 (i0 : Nat) (x1 : Int32) (x2 : Int32) (σ : St) : Option Bool := (some true)
theorem f_X9_wasThere_25_e {i0 : Nat} {x1 : Int32} {x2 : Int32} {σ : St} : f_X9_wasThere_25 i0 x1 x2 σ  = (some true) := rfl
def f_X9_wasThere (i0 : Nat) (x1 : Int32) (x2 : Int32) (σ : St) : Option Bool := (if inb (f_X9_of x2 (3 : Int32)) 52 then if (σ i0 (f_X9_of x2 (3 : Int32)).toNatClampNeg) = x1 then f_X9_wasThere_25 i0 x1 x2 σ else (if inb (f_X9_of x2 (4 : Int32)) 52 then if (f_X9_has (σ i0 (f_X9_of x2 (4 : Int32)).toNatClampNeg) x1) = true then f_X9_wasThere_25 i0 x1 x2 σ else (some false) else none) else none)
set_option maxRecDepth 100000 in
set_option maxHeartbeats 4000000 in
theorem t_X9_wasThere (l : Launch) (G : GT) (hG : Dw G) (i0 : Nat) (x1 : Int32) (x2 : Int32) (hk0 : kd i0 = 6 ∧ ln i0 = 52) (σ : St) (o : Bool) (hF : f_X9_wasThere i0 x1 x2 σ = some o) : Ct l G yX9_wasThere wsX9_wasThere 1 21 [.ref (gA G i0), .int x1, .int x2] σ (some (.int (b2i o))) σ := by
  refine Met.ofW (cc := cX9_wasThere) (maxL := 3) (ret := (some .boolean)) (by decide) rfl ?_
  intro p e s m args below meth c s₁ B hml hv
  obtain ⟨rfl, hP, hK⟩ := hv
  have hx := B.exec
  have hb := B.bytes
  have hr := B.returns
  have hts := atoms_spec (ws := wsX9_wasThere) B.pre
  have hown : s.vm.findClass RX9 = some m.cls := findClass_of_methodNamed B.named
  have hlocks := B.notSynchronized
  have Z : CallFix p m c cX9_wasThere 3 s _ wsX9_wasThere RX9 := ⟨hx, hb, hml, hown, hts⟩
  have hS : va_S (AG G) s.heap s.heap [] := va_S.rf
  have hl := lv_entry ([.ref (gA G i0), .int x1, .int x2]) (n := 3) (Nat.le_of_ble_eq_true rfl)
  rw [lg_entry_eq]
  generalize (lg_sl ([.ref (gA G i0), .int x1, .int x2]) ++ List.replicate (3 - (lg_sl ([.ref (gA G i0), .int x1, .int x2])).length) Slot.unset).toArray = ls at hl ⊢
  have hl : lv_has ls 3 [(0, .ref (gA G i0)), (1, .int x1), (2, .int x2)] := hl
  unfold f_X9_wasThere at hF
  refine lv_aload_n hx hb dX9_wasThere_0 rfl (lv_at hl 0 rfl) ?_
  refine lv_iload_n hx hb dX9_wasThere_1 rfl (lv_at hl 2 rfl) ?_
  refine lv_iconst (v := 3) hx hb dX9_wasThere_2 (by decide) ?_
  refine k_Sv (As := [.int x2, .int (3 : Int32)]) (rest := [.ref (gA G i0)]) Z hK hP hS (t_X9_of l G hG x2 (3 : Int32) σ) (va_cwS 2 hts gX9_wasThere_X9_of rfl rfl rfl (by decide +kernel) ⟨Nat.le_of_ble_eq_true rfl, Nat.le_of_ble_eq_true rfl⟩) rfl hl.1 rfl (Nat.le_of_ble_eq_true rfl) ⟨Nat.zero_le _, Nat.zero_le _⟩ dX9_wasThere_3 (fun H locs hP hS => ?_)
  obtain ⟨b1, hF⟩ := ite_some hF
  refine va_iald hx hb hK.1 hP i0 0 (at_6 hk0.1 hk0.2) rfl (inb_in b1) dX9_wasThere_6 ?_
  refine lv_iload_n hx hb dX9_wasThere_7 rfl (lv_at hl 1 rfl) ?_
  have J25 : ∀ (H : Heap) (locs : List Loc) (hP : Pw G σ H) (hS : va_S (AG G) s.heap H locs) (ls : Array Slot) (hl : lv_has ls 3 [(0, .ref (gA G i0)), (1, .int x1), (2, .int x2)]) (hF : f_X9_wasThere_25 i0 x1 x2 σ  = some o), W p l e (headSpec wsX9_wasThere ({ frames := 1, cells := 0, slots := 0, locals := 21 })).room s m ([.ref (gA G i0), .int x1, .int x2] : List Value).toArray below meth c H locs 0 0 (MQ below (qR G (some (.int (b2i o))) σ) ([.ref (gA G i0), .int x1, .int x2] : List Value).toArray s 0 0 (AG G)) (F0 m 25 ls []) := by
    intro  H locs hP hS ls hl hF
    rw [f_X9_wasThere_25_e] at hF
    refine lv_iconst (v := 1) hx hb dX9_wasThere_25 (by decide) ?_
    refine lv_goto (tgt := 30) hx hb dX9_wasThere_26 (by decide) ?_
    exact e_zP (b := true) hx hb hr hP hS hlocks dX9_wasThere_30 rfl hF
  refine lv_icmp_eq (tgt := 25) hx hb dX9_wasThere_8 (by decide) (fun c2 => ?_) (fun c2 => ?_)
  · have hF := ite_t c2 hF
    exact J25  _ _ hP hS ls (lv_sub hl [0, 1, 2] rfl) hF
  · have hF := ite_f c2 hF
    refine lv_aload_n hx hb dX9_wasThere_11 rfl (lv_at hl 0 rfl) ?_
    refine lv_iload_n hx hb dX9_wasThere_12 rfl (lv_at hl 2 rfl) ?_
    refine lv_iconst (v := 4) hx hb dX9_wasThere_13 (by decide) ?_
    refine k_Sv (As := [.int x2, .int (4 : Int32)]) (rest := [.ref (gA G i0)]) Z hK hP hS (t_X9_of l G hG x2 (4 : Int32) σ) (va_cwS 2 hts gX9_wasThere_X9_of rfl rfl rfl (by decide +kernel) ⟨Nat.le_of_ble_eq_true rfl, Nat.le_of_ble_eq_true rfl⟩) rfl hl.1 rfl (Nat.le_of_ble_eq_true rfl) ⟨Nat.zero_le _, Nat.zero_le _⟩ dX9_wasThere_14 (fun H locs hP hS => ?_)
    obtain ⟨b3, hF⟩ := ite_some hF
    refine va_iald hx hb hK.1 hP i0 0 (at_6 hk0.1 hk0.2) rfl (inb_in b3) dX9_wasThere_17 ?_
    refine lv_iload_n hx hb dX9_wasThere_18 rfl (lv_at hl 1 rfl) ?_
    refine k_Sv (As := [.int (σ i0 (f_X9_of x2 (4 : Int32)).toNatClampNeg), .int x1]) (rest := []) Z hK hP hS (t_X9_has l G hG (σ i0 (f_X9_of x2 (4 : Int32)).toNatClampNeg) x1 σ) (va_cwS 2 hts gX9_wasThere_X9_has rfl rfl rfl (by decide +kernel) ⟨Nat.le_of_ble_eq_true rfl, Nat.le_of_ble_eq_true rfl⟩) rfl hl.1 rfl (Nat.le_of_ble_eq_true rfl) ⟨Nat.zero_le _, Nat.zero_le _⟩ dX9_wasThere_19 (fun H locs hP hS => ?_)
    refine lv_if_eq (tgt := 29) hx hb dX9_wasThere_22 (by decide) (fun c4 => ?_) (fun c4 => ?_)
    · have hF := ite_f (b2i_e0 c4) hF
      refine lv_iconst (v := 0) hx hb dX9_wasThere_29 (by decide) ?_
      exact e_zP (b := false) hx hb hr hP hS hlocks dX9_wasThere_30 rfl hF
    · have hF := ite_t (b2i_n0 c4) hF
      exact J25  _ _ hP hS ls (lv_sub hl [0, 1, 2] rfl) hF
def f_X9_hasIt_73 (i0 : Nat) (x1 : Int32) (x2 : Int32) (σ : St) (z0 : Int32) (z1 : Int32) : Option Bool := (if z1 < z0 then (some false) else (some true))
theorem f_X9_hasIt_73_e {i0 : Nat} {x1 : Int32} {x2 : Int32} {σ : St} {z0 : Int32} {z1 : Int32} : f_X9_hasIt_73 i0 x1 x2 σ z0 z1 = (if z1 < z0 then (some false) else (some true)) := rfl
def f_X9_hasIt (i0 : Nat) (x1 : Int32) (x2 : Int32) (σ : St) : Option Bool := (ob (f_X9_isTold i0 x2 σ) (fun q1 => if q1 = true then (ob (f_X9_wasThere i0 x1 x2 σ) (fun q4 => if q4 = true then (if inb (f_X9_of x2 (0 : Int32)) 52 then if inb (f_X9_of x2 (1 : Int32)) 52 then if inb (f_X9_of x2 (2 : Int32)) 52 then if inb (f_X9_of x2 (3 : Int32)) 52 then if (σ i0 (f_X9_of x2 (3 : Int32)).toNatClampNeg) = x1 then (f_X9_hasIt_73 i0 x1 x2 σ ((σ i0 1) - (σ i0 (f_X9_of x2 (2 : Int32)).toNatClampNeg)) (f_X9_own (σ i0 (f_X9_of x2 (0 : Int32)).toNatClampNeg) (σ i0 (f_X9_of x2 (1 : Int32)).toNatClampNeg))) else (f_X9_hasIt_73 i0 x1 x2 σ ((σ i0 1) - (σ i0 (f_X9_of x2 (2 : Int32)).toNatClampNeg)) (f_X9_lasts (σ i0 (f_X9_of x2 (0 : Int32)).toNatClampNeg) (σ i0 (f_X9_of x2 (1 : Int32)).toNatClampNeg))) else none else none else none else none) else (some false))) else (some false)))
set_option maxRecDepth 100000 in
set_option maxHeartbeats 4000000 in
theorem t_X9_hasIt (l : Launch) (G : GT) (hG : Dw G) (i0 : Nat) (x1 : Int32) (x2 : Int32) (hk0 : kd i0 = 6 ∧ ln i0 = 52) (σ : St) (o : Bool) (hF : f_X9_hasIt i0 x1 x2 σ = some o) : Ct l G yX9_hasIt wsX9_hasIt 2 43 [.ref (gA G i0), .int x1, .int x2] σ (some (.int (b2i o))) σ := by
  refine Met.ofW (cc := cX9_hasIt) (maxL := 5) (ret := (some .boolean)) (by decide) rfl ?_
  intro p e s m args below meth c s₁ B hml hv
  obtain ⟨rfl, hP, hK⟩ := hv
  have hx := B.exec
  have hb := B.bytes
  have hr := B.returns
  have hts := atoms_spec (ws := wsX9_hasIt) B.pre
  have hown : s.vm.findClass RX9 = some m.cls := findClass_of_methodNamed B.named
  have hlocks := B.notSynchronized
  have Z : CallFix p m c cX9_hasIt 5 s _ wsX9_hasIt RX9 := ⟨hx, hb, hml, hown, hts⟩
  have hS : va_S (AG G) s.heap s.heap [] := va_S.rf
  have hl := lv_entry ([.ref (gA G i0), .int x1, .int x2]) (n := 5) (Nat.le_of_ble_eq_true rfl)
  rw [lg_entry_eq]
  generalize (lg_sl ([.ref (gA G i0), .int x1, .int x2]) ++ List.replicate (5 - (lg_sl ([.ref (gA G i0), .int x1, .int x2])).length) Slot.unset).toArray = ls at hl ⊢
  have hl : lv_has ls 5 [(0, .ref (gA G i0)), (1, .int x1), (2, .int x2)] := hl
  unfold f_X9_hasIt at hF
  refine lv_aload_n hx hb dX9_hasIt_0 rfl (lv_at hl 0 rfl) ?_
  refine lv_iload_n hx hb dX9_hasIt_1 rfl (lv_at hl 2 rfl) ?_
  obtain ⟨q1, h2, hF⟩ := ob_some hF
  refine k_Sv (As := [.ref (gA G i0), .int x2]) (rest := []) Z hK hP hS (t_X9_isTold l G hG i0 x2 ⟨hk0.1, hk0.2⟩ σ _ h2) (va_cwS 2 hts gX9_hasIt_X9_isTold rfl rfl rfl (by decide +kernel) ⟨Nat.le_of_ble_eq_true rfl, Nat.le_of_ble_eq_true rfl⟩) rfl hl.1 rfl (Nat.le_of_ble_eq_true rfl) ⟨Nat.zero_le _, Nat.zero_le _⟩ dX9_hasIt_2 (fun H locs hP hS => ?_)
  refine lv_if_eq (tgt := 17) hx hb dX9_hasIt_5 (by decide) (fun c3 => ?_) (fun c3 => ?_)
  · have hF := ite_f (b2i_e0 c3) hF
    refine lv_iconst (v := 0) hx hb dX9_hasIt_17 (by decide) ?_
    exact e_zP (b := false) hx hb hr hP hS hlocks dX9_hasIt_18 rfl hF
  · have hF := ite_t (b2i_n0 c3) hF
    refine lv_aload_n hx hb dX9_hasIt_8 rfl (lv_at hl 0 rfl) ?_
    refine lv_iload_n hx hb dX9_hasIt_9 rfl (lv_at hl 1 rfl) ?_
    refine lv_iload_n hx hb dX9_hasIt_10 rfl (lv_at hl 2 rfl) ?_
    obtain ⟨q4, h5, hF⟩ := ob_some hF
    refine k_Sv (As := [.ref (gA G i0), .int x1, .int x2]) (rest := []) Z hK hP hS (t_X9_wasThere l G hG i0 x1 x2 ⟨hk0.1, hk0.2⟩ σ _ h5) (va_cwS 3 hts gX9_hasIt_X9_wasThere rfl rfl rfl (by decide +kernel) ⟨Nat.le_of_ble_eq_true rfl, Nat.le_of_ble_eq_true rfl⟩) rfl hl.1 rfl (Nat.le_of_ble_eq_true rfl) ⟨Nat.zero_le _, Nat.zero_le _⟩ dX9_hasIt_11 (fun H locs hP hS => ?_)
    refine lv_if_ne (tgt := 19) hx hb dX9_hasIt_14 (by decide) (fun c6 => ?_) (fun c6 => ?_)
    · have hF := ite_t (b2i_n0 c6) hF
      refine lv_aload_n hx hb dX9_hasIt_19 rfl (lv_at hl 0 rfl) ?_
      refine lv_iload_n hx hb dX9_hasIt_20 rfl (lv_at hl 2 rfl) ?_
      refine lv_iconst (v := 0) hx hb dX9_hasIt_21 (by decide) ?_
      refine k_Sv (As := [.int x2, .int (0 : Int32)]) (rest := [.ref (gA G i0)]) Z hK hP hS (t_X9_of l G hG x2 (0 : Int32) σ) (va_cwS 2 hts gX9_hasIt_X9_of rfl rfl rfl (by decide +kernel) ⟨Nat.le_of_ble_eq_true rfl, Nat.le_of_ble_eq_true rfl⟩) rfl hl.1 rfl (Nat.le_of_ble_eq_true rfl) ⟨Nat.zero_le _, Nat.zero_le _⟩ dX9_hasIt_22 (fun H locs hP hS => ?_)
      obtain ⟨b7, hF⟩ := ite_some hF
      refine va_iald hx hb hK.1 hP i0 0 (at_6 hk0.1 hk0.2) rfl (inb_in b7) dX9_hasIt_25 ?_
      refine lv_istore_n (lv' := [(3, .int (σ i0 (f_X9_of x2 (0 : Int32)).toNatClampNeg)), (0, .ref (gA G i0)), (1, .int x1), (2, .int x2)]) hx hb dX9_hasIt_26 rfl hl (by decide) rfl (fun ls hl => ?_)
      refine lv_aload_n hx hb dX9_hasIt_27 rfl (lv_at hl 1 rfl) ?_
      refine lv_iload_n hx hb dX9_hasIt_28 rfl (lv_at hl 3 rfl) ?_
      refine lv_iconst (v := 1) hx hb dX9_hasIt_29 (by decide) ?_
      refine k_Sv (As := [.int x2, .int (1 : Int32)]) (rest := [.ref (gA G i0)]) Z hK hP hS (t_X9_of l G hG x2 (1 : Int32) σ) (va_cwS 2 hts gX9_hasIt_X9_of rfl rfl rfl (by decide +kernel) ⟨Nat.le_of_ble_eq_true rfl, Nat.le_of_ble_eq_true rfl⟩) rfl hl.1 rfl (Nat.le_of_ble_eq_true rfl) ⟨Nat.zero_le _, Nat.zero_le _⟩ dX9_hasIt_30 (fun H locs hP hS => ?_)
      obtain ⟨b8, hF⟩ := ite_some hF
      refine va_iald hx hb hK.1 hP i0 0 (at_6 hk0.1 hk0.2) rfl (inb_in b8) dX9_hasIt_33 ?_
      refine lv_istore (lv' := [(4, .int (σ i0 (f_X9_of x2 (1 : Int32)).toNatClampNeg)), (3, .int (σ i0 (f_X9_of x2 (0 : Int32)).toNatClampNeg)), (0, .ref (gA G i0)), (1, .int x1), (2, .int x2)]) hx hb dX9_hasIt_34 hl (by decide) rfl (fun ls hl => ?_)
      refine lv_aload_n hx hb dX9_hasIt_36 rfl (lv_at hl 2 rfl) ?_
      refine lv_iconst (v := 1) hx hb dX9_hasIt_37 (by decide) ?_
      refine va_iald hx hb hK.1 hP i0 0 (at_6 hk0.1 hk0.2) rfl (inb_in (by decide)) dX9_hasIt_38 ?_
      refine W.eq (g2 := F0 m 39 ls ([.int (σ i0 1)])) rfl ?_
      refine lv_aload_n hx hb dX9_hasIt_39 rfl (lv_at hl 2 rfl) ?_
      refine lv_iload_n hx hb dX9_hasIt_40 rfl (lv_at hl 4 rfl) ?_
      refine lv_iconst (v := 2) hx hb dX9_hasIt_41 (by decide) ?_
      refine k_Sv (As := [.int x2, .int (2 : Int32)]) (rest := [.ref (gA G i0), .int (σ i0 1)]) Z hK hP hS (t_X9_of l G hG x2 (2 : Int32) σ) (va_cwS 2 hts gX9_hasIt_X9_of rfl rfl rfl (by decide +kernel) ⟨Nat.le_of_ble_eq_true rfl, Nat.le_of_ble_eq_true rfl⟩) rfl hl.1 rfl (Nat.le_of_ble_eq_true rfl) ⟨Nat.zero_le _, Nat.zero_le _⟩ dX9_hasIt_42 (fun H locs hP hS => ?_)
      obtain ⟨b9, hF⟩ := ite_some hF
      refine va_iald hx hb hK.1 hP i0 0 (at_6 hk0.1 hk0.2) rfl (inb_in b9) dX9_hasIt_45 ?_
      refine lv_isub hx hb dX9_hasIt_46 ?_
      refine lv_aload_n hx hb dX9_hasIt_47 rfl (lv_at hl 2 rfl) ?_
      refine lv_iload_n hx hb dX9_hasIt_48 rfl (lv_at hl 4 rfl) ?_
      refine lv_iconst (v := 3) hx hb dX9_hasIt_49 (by decide) ?_
      refine k_Sv (As := [.int x2, .int (3 : Int32)]) (rest := [.ref (gA G i0), .int ((σ i0 1) - (σ i0 (f_X9_of x2 (2 : Int32)).toNatClampNeg))]) Z hK hP hS (t_X9_of l G hG x2 (3 : Int32) σ) (va_cwS 2 hts gX9_hasIt_X9_of rfl rfl rfl (by decide +kernel) ⟨Nat.le_of_ble_eq_true rfl, Nat.le_of_ble_eq_true rfl⟩) rfl hl.1 rfl (Nat.le_of_ble_eq_true rfl) ⟨Nat.zero_le _, Nat.zero_le _⟩ dX9_hasIt_50 (fun H locs hP hS => ?_)
      obtain ⟨b10, hF⟩ := ite_some hF
      refine va_iald hx hb hK.1 hP i0 0 (at_6 hk0.1 hk0.2) rfl (inb_in b10) dX9_hasIt_53 ?_
      refine lv_iload_n hx hb dX9_hasIt_54 rfl (lv_at hl 3 rfl) ?_
      have J73 : ∀ (z0 : Int32) (z1 : Int32) (H : Heap) (locs : List Loc) (hP : Pw G σ H) (hS : va_S (AG G) s.heap H locs) (ls : Array Slot) (hl : lv_has ls 5 [(0, .ref (gA G i0)), (1, .int x1), (2, .int x2)]) (hF : f_X9_hasIt_73 i0 x1 x2 σ z0 z1 = some o), W p l e (headSpec wsX9_hasIt ({ frames := 2, cells := 0, slots := 0, locals := 43 })).room s m ([.ref (gA G i0), .int x1, .int x2] : List Value).toArray below meth c H locs 0 0 (MQ below (qR G (some (.int (b2i o))) σ) ([.ref (gA G i0), .int x1, .int x2] : List Value).toArray s 0 0 (AG G)) (F0 m 73 ls [.int z1, .int z0]) := by
        intro z0 z1 H locs hP hS ls hl hF
        rw [f_X9_hasIt_73_e] at hF
        refine lv_icmp_gt (tgt := 80) hx hb dX9_hasIt_73 (by decide) (fun c11 => ?_) (fun c11 => ?_)
        · have hF := ite_t c11 hF
          refine lv_iconst (v := 0) hx hb dX9_hasIt_80 (by decide) ?_
          exact e_zP (b := false) hx hb hr hP hS hlocks dX9_hasIt_81 rfl hF
        · have hF := ite_f c11 hF
          refine lv_iconst (v := 1) hx hb dX9_hasIt_76 (by decide) ?_
          refine lv_goto (tgt := 81) hx hb dX9_hasIt_77 (by decide) ?_
          exact e_zP (b := true) hx hb hr hP hS hlocks dX9_hasIt_81 rfl hF
      refine lv_icmp_ne (tgt := 67) hx hb dX9_hasIt_55 (by decide) (fun c12 => ?_) (fun c12 => ?_)
      · have hF := ite_f c12 hF
        refine lv_iload_n hx hb dX9_hasIt_67 rfl (lv_at hl 1 rfl) ?_
        refine lv_iload hx hb dX9_hasIt_68 (lv_at hl 0 rfl) ?_
        refine k_Sv (As := [.int (σ i0 (f_X9_of x2 (0 : Int32)).toNatClampNeg), .int (σ i0 (f_X9_of x2 (1 : Int32)).toNatClampNeg)]) (rest := [.int ((σ i0 1) - (σ i0 (f_X9_of x2 (2 : Int32)).toNatClampNeg))]) Z hK hP hS (t_X9_lasts l G hG (σ i0 (f_X9_of x2 (0 : Int32)).toNatClampNeg) (σ i0 (f_X9_of x2 (1 : Int32)).toNatClampNeg) σ) (va_cwS 2 hts gX9_hasIt_X9_lasts rfl rfl rfl (by decide +kernel) ⟨Nat.le_of_ble_eq_true rfl, Nat.le_of_ble_eq_true rfl⟩) rfl hl.1 rfl (Nat.le_of_ble_eq_true rfl) ⟨Nat.zero_le _, Nat.zero_le _⟩ dX9_hasIt_70 (fun H locs hP hS => ?_)
        exact J73 ((σ i0 1) - (σ i0 (f_X9_of x2 (2 : Int32)).toNatClampNeg)) (f_X9_lasts (σ i0 (f_X9_of x2 (0 : Int32)).toNatClampNeg) (σ i0 (f_X9_of x2 (1 : Int32)).toNatClampNeg)) _ _ hP hS ls (lv_sub hl [2, 3, 4] rfl) hF
      · have hF := ite_t c12 hF
        refine lv_iload_n hx hb dX9_hasIt_58 rfl (lv_at hl 1 rfl) ?_
        refine lv_iload hx hb dX9_hasIt_59 (lv_at hl 0 rfl) ?_
        refine k_Sv (As := [.int (σ i0 (f_X9_of x2 (0 : Int32)).toNatClampNeg), .int (σ i0 (f_X9_of x2 (1 : Int32)).toNatClampNeg)]) (rest := [.int ((σ i0 1) - (σ i0 (f_X9_of x2 (2 : Int32)).toNatClampNeg))]) Z hK hP hS (t_X9_own l G hG (σ i0 (f_X9_of x2 (0 : Int32)).toNatClampNeg) (σ i0 (f_X9_of x2 (1 : Int32)).toNatClampNeg) σ) (va_cwS 2 hts gX9_hasIt_X9_own rfl rfl rfl (by decide +kernel) ⟨Nat.le_of_ble_eq_true rfl, Nat.le_of_ble_eq_true rfl⟩) rfl hl.1 rfl (Nat.le_of_ble_eq_true rfl) ⟨Nat.zero_le _, Nat.zero_le _⟩ dX9_hasIt_61 (fun H locs hP hS => ?_)
        refine lv_goto (tgt := 73) hx hb dX9_hasIt_64 (by decide) ?_
        exact J73 ((σ i0 1) - (σ i0 (f_X9_of x2 (2 : Int32)).toNatClampNeg)) (f_X9_own (σ i0 (f_X9_of x2 (0 : Int32)).toNatClampNeg) (σ i0 (f_X9_of x2 (1 : Int32)).toNatClampNeg)) _ _ hP hS ls (lv_sub hl [2, 3, 4] rfl) hF
    · have hF := ite_f (b2i_e0 c6) hF
      refine lv_iconst (v := 0) hx hb dX9_hasIt_17 (by decide) ?_
      exact e_zP (b := false) hx hb hr hP hS hlocks dX9_hasIt_18 rfl hF
def f_X9_whoHas_26 (i0 : Nat) (x1 : Int32) (σ : St) (rec4 : Int32 → Int32 → Option Int32) (v3 : Int32) (z0 : Int32) (z1 : Int32) : Option Int32 := (rec4 (z0 ||| z1) (v3 + (1 : Int32)))
theorem f_X9_whoHas_26_e {i0 : Nat} {x1 : Int32} {σ : St} {rec4 : Int32 → Int32 → Option Int32} {v3 : Int32} {z0 : Int32} {z1 : Int32} : f_X9_whoHas_26 i0 x1 σ rec4 v3 z0 z1 = (rec4 (z0 ||| z1) (v3 + (1 : Int32))) := rfl
def f_X9_whoHas_4 (i0 : Nat) (x1 : Int32) (σ : St) : Nat → (Int32 → Int32 → Option Int32)
  | 0 => fun _ _ => none
  | fl + 1 => fun v2 v3 => (if (5 : Int32) ≤ v3 then (some v2) else (ob (f_X9_hasIt i0 v3 x1 σ) (fun q2 => if q2 = true then (f_X9_whoHas_26 i0 x1 σ (f_X9_whoHas_4 i0 x1 σ fl) v3 v2 ((1 : Int32) <<< (v3 &&& 31))) else (f_X9_whoHas_26 i0 x1 σ (f_X9_whoHas_4 i0 x1 σ fl) v3 v2 (0 : Int32)))))
theorem f_X9_whoHas_4_s {i0 : Nat} {x1 : Int32} {σ : St} (fl : Nat) {v2 : Int32} {v3 : Int32} : f_X9_whoHas_4 i0 x1 σ (fl + 1) v2 v3 = (if (5 : Int32) ≤ v3 then (some v2) else (ob (f_X9_hasIt i0 v3 x1 σ) (fun q2 => if q2 = true then (f_X9_whoHas_26 i0 x1 σ (f_X9_whoHas_4 i0 x1 σ fl) v3 v2 ((1 : Int32) <<< (v3 &&& 31))) else (f_X9_whoHas_26 i0 x1 σ (f_X9_whoHas_4 i0 x1 σ fl) v3 v2 (0 : Int32))))) := rfl
def f_X9_whoHas (i0 : Nat) (x1 : Int32) (σ : St) : Option Int32 := (f_X9_whoHas_4 i0 x1 σ fu (0 : Int32) (0 : Int32))
set_option maxRecDepth 100000 in
set_option maxHeartbeats 4000000 in
theorem t_X9_whoHas (l : Launch) (G : GT) (hG : Dw G) (i0 : Nat) (x1 : Int32) (hk0 : kd i0 = 6 ∧ ln i0 = 52) (σ : St) (o : Int32) (hF : f_X9_whoHas i0 x1 σ = some o) : Ct l G yX9_whoHas wsX9_whoHas 3 67 [.ref (gA G i0), .int x1] σ (some (.int o)) σ := by
  refine Met.ofW (cc := cX9_whoHas) (maxL := 4) (ret := (some .int)) (by decide) rfl ?_
  intro p e s m args below meth c s₁ B hml hv
  obtain ⟨rfl, hP, hK⟩ := hv
  have hx := B.exec
  have hb := B.bytes
  have hr := B.returns
  have hts := atoms_spec (ws := wsX9_whoHas) B.pre
  have hown : s.vm.findClass RX9 = some m.cls := findClass_of_methodNamed B.named
  have hlocks := B.notSynchronized
  have Z : CallFix p m c cX9_whoHas 4 s _ wsX9_whoHas RX9 := ⟨hx, hb, hml, hown, hts⟩
  have hS : va_S (AG G) s.heap s.heap [] := va_S.rf
  have hl := lv_entry ([.ref (gA G i0), .int x1]) (n := 4) (Nat.le_of_ble_eq_true rfl)
  rw [lg_entry_eq]
  generalize (lg_sl ([.ref (gA G i0), .int x1]) ++ List.replicate (4 - (lg_sl ([.ref (gA G i0), .int x1])).length) Slot.unset).toArray = ls at hl ⊢
  have hl : lv_has ls 4 [(0, .ref (gA G i0)), (1, .int x1)] := hl
  unfold f_X9_whoHas at hF
  refine lv_iconst (v := 0) hx hb dX9_whoHas_0 (by decide) ?_
  refine lv_istore_n (lv' := [(2, .int (0 : Int32)), (0, .ref (gA G i0)), (1, .int x1)]) hx hb dX9_whoHas_1 rfl hl (by decide) rfl (fun ls hl => ?_)
  refine lv_iconst (v := 0) hx hb dX9_whoHas_2 (by decide) ?_
  have J4 : ∀ (fl : Nat) (v2 : Int32) (v3 : Int32) (H : Heap) (locs : List Loc) (hP : Pw G σ H) (hS : va_S (AG G) s.heap H locs) (ls : Array Slot) (hl : lv_has ls 4 [(0, .ref (gA G i0)), (1, .int x1), (2, .int v2), (3, .int v3)]) (hF : f_X9_whoHas_4 i0 x1 σ fl v2 v3 = some o), W p l e (headSpec wsX9_whoHas ({ frames := 3, cells := 0, slots := 0, locals := 67 })).room s m ([.ref (gA G i0), .int x1] : List Value).toArray below meth c H locs 0 0 (MQ below (qR G (some (.int o)) σ) ([.ref (gA G i0), .int x1] : List Value).toArray s 0 0 (AG G)) (F0 m 4 ls []) := by
    intro fl4
    induction fl4 with
    | zero => intro v2 v3 H locs hP hS ls hl hF; cases hF
    | succ fl4 ih4 =>
      intro v2 v3 H locs hP hS ls hl hF
      rw [f_X9_whoHas_4_s] at hF
      refine lv_iload_n hx hb dX9_whoHas_4 rfl (lv_at hl 3 rfl) ?_
      refine lv_iconst (v := 5) hx hb dX9_whoHas_5 (by decide) ?_
      refine lv_icmp_ge (tgt := 34) hx hb dX9_whoHas_6 (by decide) (fun c1 => ?_) (fun c1 => ?_)
      · have hF := ite_t c1 hF
        refine lv_iload_n hx hb dX9_whoHas_34 rfl (lv_at hl 2 rfl) ?_
        exact e_iP hx hb hr hP hS hlocks dX9_whoHas_35 hF
      · have hF := ite_f c1 hF
        refine lv_iload_n hx hb dX9_whoHas_9 rfl (lv_at hl 2 rfl) ?_
        refine lv_aload_n hx hb dX9_whoHas_10 rfl (lv_at hl 0 rfl) ?_
        refine lv_iload_n hx hb dX9_whoHas_11 rfl (lv_at hl 3 rfl) ?_
        refine lv_iload_n hx hb dX9_whoHas_12 rfl (lv_at hl 1 rfl) ?_
        obtain ⟨q2, h3, hF⟩ := ob_some hF
        refine k_Sv (As := [.ref (gA G i0), .int v3, .int x1]) (rest := [.int v2]) Z hK hP hS (t_X9_hasIt l G hG i0 v3 x1 ⟨hk0.1, hk0.2⟩ σ _ h3) (va_cwS 3 hts gX9_whoHas_X9_hasIt rfl rfl rfl (by decide +kernel) ⟨Nat.le_of_ble_eq_true rfl, Nat.le_of_ble_eq_true rfl⟩) rfl hl.1 rfl (Nat.le_of_ble_eq_true rfl) ⟨Nat.zero_le _, Nat.zero_le _⟩ dX9_whoHas_13 (fun H locs hP hS => ?_)
        have J26 : ∀ (v3 : Int32) (z0 : Int32) (z1 : Int32) (H : Heap) (locs : List Loc) (hP : Pw G σ H) (hS : va_S (AG G) s.heap H locs) (ls : Array Slot) (hl : lv_has ls 4 [(0, .ref (gA G i0)), (1, .int x1), (3, .int v3)]) (hF : f_X9_whoHas_26 i0 x1 σ (f_X9_whoHas_4 i0 x1 σ fl4) v3 z0 z1 = some o), W p l e (headSpec wsX9_whoHas ({ frames := 3, cells := 0, slots := 0, locals := 67 })).room s m ([.ref (gA G i0), .int x1] : List Value).toArray below meth c H locs 0 0 (MQ below (qR G (some (.int o)) σ) ([.ref (gA G i0), .int x1] : List Value).toArray s 0 0 (AG G)) (F0 m 26 ls [.int z1, .int z0]) := by
          intro v3 z0 z1 H locs hP hS ls hl hF
          rw [f_X9_whoHas_26_e] at hF
          refine lv_ior hx hb dX9_whoHas_26 ?_
          refine lv_istore_n (lv' := [(2, .int (z0 ||| z1)), (0, .ref (gA G i0)), (1, .int x1), (3, .int v3)]) hx hb dX9_whoHas_27 rfl hl (by decide) rfl (fun ls hl => ?_)
          refine lv_iinc (v := (v3 + (1 : Int32))) (lv' := [(3, .int (v3 + (1 : Int32))), (2, .int (z0 ||| z1)), (0, .ref (gA G i0)), (1, .int x1)]) hx hb dX9_whoHas_28 hl (k := 3) rfl rfl (by decide) rfl (fun ls hl => ?_)
          refine lv_goto (tgt := 4) hx hb dX9_whoHas_31 (by decide) ?_
          exact ih4 (z0 ||| z1) (v3 + (1 : Int32)) _ _ hP hS ls (lv_sub hl [2, 3, 1, 0] rfl) hF
        refine lv_if_eq (tgt := 25) hx hb dX9_whoHas_16 (by decide) (fun c4 => ?_) (fun c4 => ?_)
        · have hF := ite_f (b2i_e0 c4) hF
          refine lv_iconst (v := 0) hx hb dX9_whoHas_25 (by decide) ?_
          exact J26 v3 v2 (0 : Int32) _ _ hP hS ls (lv_sub hl [0, 1, 3] rfl) hF
        · have hF := ite_t (b2i_n0 c4) hF
          refine lv_iconst (v := 1) hx hb dX9_whoHas_19 (by decide) ?_
          refine lv_iload_n hx hb dX9_whoHas_20 rfl (lv_at hl 3 rfl) ?_
          refine lv_ishl hx hb dX9_whoHas_21 ?_
          refine lv_goto (tgt := 26) hx hb dX9_whoHas_22 (by decide) ?_
          exact J26 v3 v2 ((1 : Int32) <<< (v3 &&& 31)) _ _ hP hS ls (lv_sub hl [0, 1, 3] rfl) hF
  refine lv_istore_n (lv' := [(3, .int (0 : Int32)), (2, .int (0 : Int32)), (0, .ref (gA G i0)), (1, .int x1)]) hx hb dX9_whoHas_3 rfl hl (by decide) rfl (fun ls hl => ?_)
  exact J4 fu (0 : Int32) (0 : Int32) _ _ hP hS ls (lv_sub hl [2, 3, 1, 0] rfl) hF
def f_X9_knowsIn_28 (i0 : Nat) (x1 : Int32) (σ : St) (rec4 : Int32 → Int32 → Option Int32) (v3 : Int32) (z0 : Int32) (z1 : Int32) : Option Int32 := (rec4 (z0 ||| z1) (v3 + (1 : Int32)))
theorem f_X9_knowsIn_28_e {i0 : Nat} {x1 : Int32} {σ : St} {rec4 : Int32 → Int32 → Option Int32} {v3 : Int32} {z0 : Int32} {z1 : Int32} : f_X9_knowsIn_28 i0 x1 σ rec4 v3 z0 z1 = (rec4 (z0 ||| z1) (v3 + (1 : Int32))) := rfl
def f_X9_knowsIn_4 (i0 : Nat) (x1 : Int32) (σ : St) : Nat → (Int32 → Int32 → Option Int32)
  | 0 => fun _ _ => none
  | fl + 1 => fun v2 v3 => (if (σ i0 0) ≤ v3 then (some v2) else (ob (f_X9_hasIt i0 x1 v3 σ) (fun q2 => if q2 = true then (f_X9_knowsIn_28 i0 x1 σ (f_X9_knowsIn_4 i0 x1 σ fl) v3 v2 ((1 : Int32) <<< (v3 &&& 31))) else (f_X9_knowsIn_28 i0 x1 σ (f_X9_knowsIn_4 i0 x1 σ fl) v3 v2 (0 : Int32)))))
theorem f_X9_knowsIn_4_s {i0 : Nat} {x1 : Int32} {σ : St} (fl : Nat) {v2 : Int32} {v3 : Int32} : f_X9_knowsIn_4 i0 x1 σ (fl + 1) v2 v3 = (if (σ i0 0) ≤ v3 then (some v2) else (ob (f_X9_hasIt i0 x1 v3 σ) (fun q2 => if q2 = true then (f_X9_knowsIn_28 i0 x1 σ (f_X9_knowsIn_4 i0 x1 σ fl) v3 v2 ((1 : Int32) <<< (v3 &&& 31))) else (f_X9_knowsIn_28 i0 x1 σ (f_X9_knowsIn_4 i0 x1 σ fl) v3 v2 (0 : Int32))))) := rfl
def f_X9_knowsIn (i0 : Nat) (x1 : Int32) (σ : St) : Option Int32 := (f_X9_knowsIn_4 i0 x1 σ fu (0 : Int32) (0 : Int32))
set_option maxRecDepth 100000 in
set_option maxHeartbeats 4000000 in
theorem t_X9_knowsIn (l : Launch) (G : GT) (hG : Dw G) (i0 : Nat) (x1 : Int32) (hk0 : kd i0 = 6 ∧ ln i0 = 52) (σ : St) (o : Int32) (hF : f_X9_knowsIn i0 x1 σ = some o) : Ct l G yX9_knowsIn wsX9_knowsIn 3 67 [.ref (gA G i0), .int x1] σ (some (.int o)) σ := by
  refine Met.ofW (cc := cX9_knowsIn) (maxL := 4) (ret := (some .int)) (by decide) rfl ?_
  intro p e s m args below meth c s₁ B hml hv
  obtain ⟨rfl, hP, hK⟩ := hv
  have hx := B.exec
  have hb := B.bytes
  have hr := B.returns
  have hts := atoms_spec (ws := wsX9_knowsIn) B.pre
  have hown : s.vm.findClass RX9 = some m.cls := findClass_of_methodNamed B.named
  have hlocks := B.notSynchronized
  have Z : CallFix p m c cX9_knowsIn 4 s _ wsX9_knowsIn RX9 := ⟨hx, hb, hml, hown, hts⟩
  have hS : va_S (AG G) s.heap s.heap [] := va_S.rf
  have hl := lv_entry ([.ref (gA G i0), .int x1]) (n := 4) (Nat.le_of_ble_eq_true rfl)
  rw [lg_entry_eq]
  generalize (lg_sl ([.ref (gA G i0), .int x1]) ++ List.replicate (4 - (lg_sl ([.ref (gA G i0), .int x1])).length) Slot.unset).toArray = ls at hl ⊢
  have hl : lv_has ls 4 [(0, .ref (gA G i0)), (1, .int x1)] := hl
  unfold f_X9_knowsIn at hF
  refine lv_iconst (v := 0) hx hb dX9_knowsIn_0 (by decide) ?_
  refine lv_istore_n (lv' := [(2, .int (0 : Int32)), (0, .ref (gA G i0)), (1, .int x1)]) hx hb dX9_knowsIn_1 rfl hl (by decide) rfl (fun ls hl => ?_)
  refine lv_iconst (v := 0) hx hb dX9_knowsIn_2 (by decide) ?_
  have J4 : ∀ (fl : Nat) (v2 : Int32) (v3 : Int32) (H : Heap) (locs : List Loc) (hP : Pw G σ H) (hS : va_S (AG G) s.heap H locs) (ls : Array Slot) (hl : lv_has ls 4 [(0, .ref (gA G i0)), (1, .int x1), (2, .int v2), (3, .int v3)]) (hF : f_X9_knowsIn_4 i0 x1 σ fl v2 v3 = some o), W p l e (headSpec wsX9_knowsIn ({ frames := 3, cells := 0, slots := 0, locals := 67 })).room s m ([.ref (gA G i0), .int x1] : List Value).toArray below meth c H locs 0 0 (MQ below (qR G (some (.int o)) σ) ([.ref (gA G i0), .int x1] : List Value).toArray s 0 0 (AG G)) (F0 m 4 ls []) := by
    intro fl4
    induction fl4 with
    | zero => intro v2 v3 H locs hP hS ls hl hF; cases hF
    | succ fl4 ih4 =>
      intro v2 v3 H locs hP hS ls hl hF
      rw [f_X9_knowsIn_4_s] at hF
      refine lv_iload_n hx hb dX9_knowsIn_4 rfl (lv_at hl 3 rfl) ?_
      refine lv_aload_n hx hb dX9_knowsIn_5 rfl (lv_at hl 0 rfl) ?_
      refine lv_iconst (v := 0) hx hb dX9_knowsIn_6 (by decide) ?_
      refine va_iald hx hb hK.1 hP i0 0 (at_6 hk0.1 hk0.2) rfl (inb_in (by decide)) dX9_knowsIn_7 ?_
      refine W.eq (g2 := F0 m 8 ls ([.int (σ i0 0), .int v3])) rfl ?_
      refine lv_icmp_ge (tgt := 36) hx hb dX9_knowsIn_8 (by decide) (fun c1 => ?_) (fun c1 => ?_)
      · have hF := ite_t c1 hF
        refine lv_iload_n hx hb dX9_knowsIn_36 rfl (lv_at hl 2 rfl) ?_
        exact e_iP hx hb hr hP hS hlocks dX9_knowsIn_37 hF
      · have hF := ite_f c1 hF
        refine lv_iload_n hx hb dX9_knowsIn_11 rfl (lv_at hl 2 rfl) ?_
        refine lv_aload_n hx hb dX9_knowsIn_12 rfl (lv_at hl 0 rfl) ?_
        refine lv_iload_n hx hb dX9_knowsIn_13 rfl (lv_at hl 1 rfl) ?_
        refine lv_iload_n hx hb dX9_knowsIn_14 rfl (lv_at hl 3 rfl) ?_
        obtain ⟨q2, h3, hF⟩ := ob_some hF
        refine k_Sv (As := [.ref (gA G i0), .int x1, .int v3]) (rest := [.int v2]) Z hK hP hS (t_X9_hasIt l G hG i0 x1 v3 ⟨hk0.1, hk0.2⟩ σ _ h3) (va_cwS 3 hts gX9_knowsIn_X9_hasIt rfl rfl rfl (by decide +kernel) ⟨Nat.le_of_ble_eq_true rfl, Nat.le_of_ble_eq_true rfl⟩) rfl hl.1 rfl (Nat.le_of_ble_eq_true rfl) ⟨Nat.zero_le _, Nat.zero_le _⟩ dX9_knowsIn_15 (fun H locs hP hS => ?_)
        have J28 : ∀ (v3 : Int32) (z0 : Int32) (z1 : Int32) (H : Heap) (locs : List Loc) (hP : Pw G σ H) (hS : va_S (AG G) s.heap H locs) (ls : Array Slot) (hl : lv_has ls 4 [(0, .ref (gA G i0)), (1, .int x1), (3, .int v3)]) (hF : f_X9_knowsIn_28 i0 x1 σ (f_X9_knowsIn_4 i0 x1 σ fl4) v3 z0 z1 = some o), W p l e (headSpec wsX9_knowsIn ({ frames := 3, cells := 0, slots := 0, locals := 67 })).room s m ([.ref (gA G i0), .int x1] : List Value).toArray below meth c H locs 0 0 (MQ below (qR G (some (.int o)) σ) ([.ref (gA G i0), .int x1] : List Value).toArray s 0 0 (AG G)) (F0 m 28 ls [.int z1, .int z0]) := by
          intro v3 z0 z1 H locs hP hS ls hl hF
          rw [f_X9_knowsIn_28_e] at hF
          refine lv_ior hx hb dX9_knowsIn_28 ?_
          refine lv_istore_n (lv' := [(2, .int (z0 ||| z1)), (0, .ref (gA G i0)), (1, .int x1), (3, .int v3)]) hx hb dX9_knowsIn_29 rfl hl (by decide) rfl (fun ls hl => ?_)
          refine lv_iinc (v := (v3 + (1 : Int32))) (lv' := [(3, .int (v3 + (1 : Int32))), (2, .int (z0 ||| z1)), (0, .ref (gA G i0)), (1, .int x1)]) hx hb dX9_knowsIn_30 hl (k := 3) rfl rfl (by decide) rfl (fun ls hl => ?_)
          refine lv_goto (tgt := 4) hx hb dX9_knowsIn_33 (by decide) ?_
          exact ih4 (z0 ||| z1) (v3 + (1 : Int32)) _ _ hP hS ls (lv_sub hl [2, 3, 1, 0] rfl) hF
        refine lv_if_eq (tgt := 27) hx hb dX9_knowsIn_18 (by decide) (fun c4 => ?_) (fun c4 => ?_)
        · have hF := ite_f (b2i_e0 c4) hF
          refine lv_iconst (v := 0) hx hb dX9_knowsIn_27 (by decide) ?_
          exact J28 v3 v2 (0 : Int32) _ _ hP hS ls (lv_sub hl [0, 1, 3] rfl) hF
        · have hF := ite_t (b2i_n0 c4) hF
          refine lv_iconst (v := 1) hx hb dX9_knowsIn_21 (by decide) ?_
          refine lv_iload_n hx hb dX9_knowsIn_22 rfl (lv_at hl 3 rfl) ?_
          refine lv_ishl hx hb dX9_knowsIn_23 ?_
          refine lv_goto (tgt := 28) hx hb dX9_knowsIn_24 (by decide) ?_
          exact J28 v3 v2 ((1 : Int32) <<< (v3 &&& 31)) _ _ hP hS ls (lv_sub hl [0, 1, 3] rfl) hF
  refine lv_istore_n (lv' := [(3, .int (0 : Int32)), (2, .int (0 : Int32)), (0, .ref (gA G i0)), (1, .int x1)]) hx hb dX9_knowsIn_3 rfl hl (by decide) rfl (fun ls hl => ?_)
  exact J4 fu (0 : Int32) (0 : Int32) _ _ hP hS ls (lv_sub hl [2, 3, 1, 0] rfl) hF
def f_X9_isAhead (x1 : Int32) (x2 : Int32) (σ : St) : Option Bool := (if inb (f_X9_of x1 (2 : Int32)) 52 then if inb (f_X9_of x2 (2 : Int32)) 52 then if (σ 62 (f_X9_of x1 (2 : Int32)).toNatClampNeg) = (σ 62 (f_X9_of x2 (2 : Int32)).toNatClampNeg) then (ob (f_X9_sizeOf 62 x1 σ) (fun q4 => ob (f_X9_sizeOf 62 x2 σ) (fun q6 => if q4 = q6 then (if x2 ≤ x1 then (some false) else (some true)) else (ob (f_X9_sizeOf 62 x1 σ) (fun q10 => ob (f_X9_sizeOf 62 x2 σ) (fun q12 => if q10 ≤ q12 then (some false) else (some true))))))) else (if inb (f_X9_of x1 (2 : Int32)) 52 then if inb (f_X9_of x2 (2 : Int32)) 52 then if (σ 62 (f_X9_of x2 (2 : Int32)).toNatClampNeg) ≤ (σ 62 (f_X9_of x1 (2 : Int32)).toNatClampNeg) then (some false) else (some true) else none else none) else none else none)
set_option maxRecDepth 100000 in
set_option maxHeartbeats 4000000 in
theorem t_X9_isAhead (l : Launch) (G : GT) (hG : Dw G) (x1 : Int32) (x2 : Int32) (σ : St) (o : Bool) (hF : f_X9_isAhead x1 x2 σ = some o) : Ct l G yX9_isAhead wsX9_isAhead 2 42 [.ref (gA G 61), .int x1, .int x2] σ (some (.int (b2i o))) σ := by
  refine Met.ofW (cc := cX9_isAhead) (maxL := 3) (ret := (some .boolean)) (by decide) rfl ?_
  intro p e s m args below meth c s₁ B hml hv
  obtain ⟨rfl, hP, hK⟩ := hv
  have hx := B.exec
  have hb := B.bytes
  have hr := B.returns
  have hts := atoms_spec (ws := wsX9_isAhead) B.pre
  have hown : s.vm.findClass RX9 = some m.cls := findClass_of_methodNamed B.named
  have hlocks := B.notSynchronized
  have Z : CallFix p m c cX9_isAhead 3 s _ wsX9_isAhead RX9 := ⟨hx, hb, hml, hown, hts⟩
  have hS : va_S (AG G) s.heap s.heap [] := va_S.rf
  have inX9 : ∀ w ∈ u_ws RX9 TX9 21, w ∈ wsX9_isAhead := by decide +kernel
  have w1 := hts (.fieldLink RX9 9 "AlmanacOfTheYearGoneModel" "s" "[I") (by decide +kernel)
  have hl := lv_entry ([.ref (gA G 61), .int x1, .int x2]) (n := 3) (Nat.le_of_ble_eq_true rfl)
  rw [lg_entry_eq]
  generalize (lg_sl ([.ref (gA G 61), .int x1, .int x2]) ++ List.replicate (3 - (lg_sl ([.ref (gA G 61), .int x1, .int x2])).length) Slot.unset).toArray = ls at hl ⊢
  have hl : lv_has ls 3 [(0, .ref (gA G 61)), (1, .int x1), (2, .int x2)] := hl
  unfold f_X9_isAhead at hF
  refine lv_aload_n hx hb dX9_isAhead_0 rfl (lv_at hl 0 rfl) ?_
  refine va_get (ci := 5) (C := RX9) (T := TX9) (N := 21) (v := .ref (gA G 62)) hx hb hts inX9 hown hK.1 hP 61 (at_5 rfl) rfl 0 (by decide) w1 (fun _ h9 => h9) rfl dX9_isAhead_1 ?_
  refine lv_iload_n hx hb dX9_isAhead_4 rfl (lv_at hl 1 rfl) ?_
  refine lv_iconst (v := 2) hx hb dX9_isAhead_5 (by decide) ?_
  refine k_Sv (As := [.int x1, .int (2 : Int32)]) (rest := [.ref (gA G 62)]) Z hK hP hS (t_X9_of l G hG x1 (2 : Int32) σ) (va_cwS 2 hts gX9_isAhead_X9_of rfl rfl rfl (by decide +kernel) ⟨Nat.le_of_ble_eq_true rfl, Nat.le_of_ble_eq_true rfl⟩) rfl hl.1 rfl (Nat.le_of_ble_eq_true rfl) ⟨Nat.zero_le _, Nat.zero_le _⟩ dX9_isAhead_6 (fun H locs hP hS => ?_)
  obtain ⟨b1, hF⟩ := ite_some hF
  refine va_iald hx hb hK.1 hP 62 0 (at_6 (rfl : kd 62 = 6) (rfl : ln 62 = 52)) rfl (inb_in b1) dX9_isAhead_9 ?_
  refine lv_aload_n hx hb dX9_isAhead_10 rfl (lv_at hl 0 rfl) ?_
  refine va_get (ci := 5) (C := RX9) (T := TX9) (N := 21) (v := .ref (gA G 62)) hx hb hts inX9 hown hK.1 hP 61 (at_5 rfl) rfl 0 (by decide) w1 (fun _ h9 => h9) rfl dX9_isAhead_11 ?_
  refine lv_iload_n hx hb dX9_isAhead_14 rfl (lv_at hl 2 rfl) ?_
  refine lv_iconst (v := 2) hx hb dX9_isAhead_15 (by decide) ?_
  refine k_Sv (As := [.int x2, .int (2 : Int32)]) (rest := [.ref (gA G 62), .int (σ 62 (f_X9_of x1 (2 : Int32)).toNatClampNeg)]) Z hK hP hS (t_X9_of l G hG x2 (2 : Int32) σ) (va_cwS 2 hts gX9_isAhead_X9_of rfl rfl rfl (by decide +kernel) ⟨Nat.le_of_ble_eq_true rfl, Nat.le_of_ble_eq_true rfl⟩) rfl hl.1 rfl (Nat.le_of_ble_eq_true rfl) ⟨Nat.zero_le _, Nat.zero_le _⟩ dX9_isAhead_16 (fun H locs hP hS => ?_)
  obtain ⟨b2, hF⟩ := ite_some hF
  refine va_iald hx hb hK.1 hP 62 0 (at_6 (rfl : kd 62 = 6) (rfl : ln 62 = 52)) rfl (inb_in b2) dX9_isAhead_19 ?_
  refine lv_icmp_eq (tgt := 52) hx hb dX9_isAhead_20 (by decide) (fun c3 => ?_) (fun c3 => ?_)
  · have hF := ite_t c3 hF
    refine lv_aload_n hx hb dX9_isAhead_52 rfl (lv_at hl 0 rfl) ?_
    refine va_get (ci := 5) (C := RX9) (T := TX9) (N := 21) (v := .ref (gA G 62)) hx hb hts inX9 hown hK.1 hP 61 (at_5 rfl) rfl 0 (by decide) w1 (fun _ h9 => h9) rfl dX9_isAhead_53 ?_
    refine lv_iload_n hx hb dX9_isAhead_56 rfl (lv_at hl 1 rfl) ?_
    obtain ⟨q4, h5, hF⟩ := ob_some hF
    refine k_Sv (As := [.ref (gA G 62), .int x1]) (rest := []) Z hK hP hS (t_X9_sizeOf l G hG 62 x1 ⟨(rfl : kd 62 = 6), (rfl : ln 62 = 52)⟩ σ _ h5) (va_cwS 2 hts gX9_isAhead_X9_sizeOf rfl rfl rfl (by decide +kernel) ⟨Nat.le_of_ble_eq_true rfl, Nat.le_of_ble_eq_true rfl⟩) rfl hl.1 rfl (Nat.le_of_ble_eq_true rfl) ⟨Nat.zero_le _, Nat.zero_le _⟩ dX9_isAhead_57 (fun H locs hP hS => ?_)
    refine lv_aload_n hx hb dX9_isAhead_60 rfl (lv_at hl 0 rfl) ?_
    refine va_get (ci := 5) (C := RX9) (T := TX9) (N := 21) (v := .ref (gA G 62)) hx hb hts inX9 hown hK.1 hP 61 (at_5 rfl) rfl 0 (by decide) w1 (fun _ h9 => h9) rfl dX9_isAhead_61 ?_
    refine lv_iload_n hx hb dX9_isAhead_64 rfl (lv_at hl 2 rfl) ?_
    obtain ⟨q6, h7, hF⟩ := ob_some hF
    refine k_Sv (As := [.ref (gA G 62), .int x2]) (rest := [.int q4]) Z hK hP hS (t_X9_sizeOf l G hG 62 x2 ⟨(rfl : kd 62 = 6), (rfl : ln 62 = 52)⟩ σ _ h7) (va_cwS 2 hts gX9_isAhead_X9_sizeOf rfl rfl rfl (by decide +kernel) ⟨Nat.le_of_ble_eq_true rfl, Nat.le_of_ble_eq_true rfl⟩) rfl hl.1 rfl (Nat.le_of_ble_eq_true rfl) ⟨Nat.zero_le _, Nat.zero_le _⟩ dX9_isAhead_65 (fun H locs hP hS => ?_)
    refine lv_icmp_eq (tgt := 98) hx hb dX9_isAhead_68 (by decide) (fun c8 => ?_) (fun c8 => ?_)
    · have hF := ite_t c8 hF
      refine lv_iload_n hx hb dX9_isAhead_98 rfl (lv_at hl 1 rfl) ?_
      refine lv_iload_n hx hb dX9_isAhead_99 rfl (lv_at hl 2 rfl) ?_
      refine lv_icmp_ge (tgt := 107) hx hb dX9_isAhead_100 (by decide) (fun c9 => ?_) (fun c9 => ?_)
      · have hF := ite_t c9 hF
        refine lv_iconst (v := 0) hx hb dX9_isAhead_107 (by decide) ?_
        exact e_zP (b := false) hx hb hr hP hS hlocks dX9_isAhead_108 rfl hF
      · have hF := ite_f c9 hF
        refine lv_iconst (v := 1) hx hb dX9_isAhead_103 (by decide) ?_
        refine lv_goto (tgt := 108) hx hb dX9_isAhead_104 (by decide) ?_
        exact e_zP (b := true) hx hb hr hP hS hlocks dX9_isAhead_108 rfl hF
    · have hF := ite_f c8 hF
      refine lv_aload_n hx hb dX9_isAhead_71 rfl (lv_at hl 0 rfl) ?_
      refine va_get (ci := 5) (C := RX9) (T := TX9) (N := 21) (v := .ref (gA G 62)) hx hb hts inX9 hown hK.1 hP 61 (at_5 rfl) rfl 0 (by decide) w1 (fun _ h9 => h9) rfl dX9_isAhead_72 ?_
      refine lv_iload_n hx hb dX9_isAhead_75 rfl (lv_at hl 1 rfl) ?_
      obtain ⟨q10, h11, hF⟩ := ob_some hF
      refine k_Sv (As := [.ref (gA G 62), .int x1]) (rest := []) Z hK hP hS (t_X9_sizeOf l G hG 62 x1 ⟨(rfl : kd 62 = 6), (rfl : ln 62 = 52)⟩ σ _ h11) (va_cwS 2 hts gX9_isAhead_X9_sizeOf rfl rfl rfl (by decide +kernel) ⟨Nat.le_of_ble_eq_true rfl, Nat.le_of_ble_eq_true rfl⟩) rfl hl.1 rfl (Nat.le_of_ble_eq_true rfl) ⟨Nat.zero_le _, Nat.zero_le _⟩ dX9_isAhead_76 (fun H locs hP hS => ?_)
      refine lv_aload_n hx hb dX9_isAhead_79 rfl (lv_at hl 0 rfl) ?_
      refine va_get (ci := 5) (C := RX9) (T := TX9) (N := 21) (v := .ref (gA G 62)) hx hb hts inX9 hown hK.1 hP 61 (at_5 rfl) rfl 0 (by decide) w1 (fun _ h9 => h9) rfl dX9_isAhead_80 ?_
      refine lv_iload_n hx hb dX9_isAhead_83 rfl (lv_at hl 2 rfl) ?_
      obtain ⟨q12, h13, hF⟩ := ob_some hF
      refine k_Sv (As := [.ref (gA G 62), .int x2]) (rest := [.int q10]) Z hK hP hS (t_X9_sizeOf l G hG 62 x2 ⟨(rfl : kd 62 = 6), (rfl : ln 62 = 52)⟩ σ _ h13) (va_cwS 2 hts gX9_isAhead_X9_sizeOf rfl rfl rfl (by decide +kernel) ⟨Nat.le_of_ble_eq_true rfl, Nat.le_of_ble_eq_true rfl⟩) rfl hl.1 rfl (Nat.le_of_ble_eq_true rfl) ⟨Nat.zero_le _, Nat.zero_le _⟩ dX9_isAhead_84 (fun H locs hP hS => ?_)
      refine lv_icmp_le (tgt := 94) hx hb dX9_isAhead_87 (by decide) (fun c14 => ?_) (fun c14 => ?_)
      · have hF := ite_t c14 hF
        refine lv_iconst (v := 0) hx hb dX9_isAhead_94 (by decide) ?_
        refine lv_goto (tgt := 108) hx hb dX9_isAhead_95 (by decide) ?_
        exact e_zP (b := false) hx hb hr hP hS hlocks dX9_isAhead_108 rfl hF
      · have hF := ite_f c14 hF
        refine lv_iconst (v := 1) hx hb dX9_isAhead_90 (by decide) ?_
        refine lv_goto (tgt := 108) hx hb dX9_isAhead_91 (by decide) ?_
        exact e_zP (b := true) hx hb hr hP hS hlocks dX9_isAhead_108 rfl hF
  · have hF := ite_f c3 hF
    refine lv_aload_n hx hb dX9_isAhead_23 rfl (lv_at hl 0 rfl) ?_
    refine va_get (ci := 5) (C := RX9) (T := TX9) (N := 21) (v := .ref (gA G 62)) hx hb hts inX9 hown hK.1 hP 61 (at_5 rfl) rfl 0 (by decide) w1 (fun _ h9 => h9) rfl dX9_isAhead_24 ?_
    refine lv_iload_n hx hb dX9_isAhead_27 rfl (lv_at hl 1 rfl) ?_
    refine lv_iconst (v := 2) hx hb dX9_isAhead_28 (by decide) ?_
    refine k_Sv (As := [.int x1, .int (2 : Int32)]) (rest := [.ref (gA G 62)]) Z hK hP hS (t_X9_of l G hG x1 (2 : Int32) σ) (va_cwS 2 hts gX9_isAhead_X9_of rfl rfl rfl (by decide +kernel) ⟨Nat.le_of_ble_eq_true rfl, Nat.le_of_ble_eq_true rfl⟩) rfl hl.1 rfl (Nat.le_of_ble_eq_true rfl) ⟨Nat.zero_le _, Nat.zero_le _⟩ dX9_isAhead_29 (fun H locs hP hS => ?_)
    obtain ⟨b15, hF⟩ := ite_some hF
    refine va_iald hx hb hK.1 hP 62 0 (at_6 (rfl : kd 62 = 6) (rfl : ln 62 = 52)) rfl (inb_in b15) dX9_isAhead_32 ?_
    refine lv_aload_n hx hb dX9_isAhead_33 rfl (lv_at hl 0 rfl) ?_
    refine va_get (ci := 5) (C := RX9) (T := TX9) (N := 21) (v := .ref (gA G 62)) hx hb hts inX9 hown hK.1 hP 61 (at_5 rfl) rfl 0 (by decide) w1 (fun _ h9 => h9) rfl dX9_isAhead_34 ?_
    refine lv_iload_n hx hb dX9_isAhead_37 rfl (lv_at hl 2 rfl) ?_
    refine lv_iconst (v := 2) hx hb dX9_isAhead_38 (by decide) ?_
    refine k_Sv (As := [.int x2, .int (2 : Int32)]) (rest := [.ref (gA G 62), .int (σ 62 (f_X9_of x1 (2 : Int32)).toNatClampNeg)]) Z hK hP hS (t_X9_of l G hG x2 (2 : Int32) σ) (va_cwS 2 hts gX9_isAhead_X9_of rfl rfl rfl (by decide +kernel) ⟨Nat.le_of_ble_eq_true rfl, Nat.le_of_ble_eq_true rfl⟩) rfl hl.1 rfl (Nat.le_of_ble_eq_true rfl) ⟨Nat.zero_le _, Nat.zero_le _⟩ dX9_isAhead_39 (fun H locs hP hS => ?_)
    obtain ⟨b16, hF⟩ := ite_some hF
    refine va_iald hx hb hK.1 hP 62 0 (at_6 (rfl : kd 62 = 6) (rfl : ln 62 = 52)) rfl (inb_in b16) dX9_isAhead_42 ?_
    refine lv_icmp_ge (tgt := 50) hx hb dX9_isAhead_43 (by decide) (fun c17 => ?_) (fun c17 => ?_)
    · have hF := ite_t c17 hF
      refine lv_iconst (v := 0) hx hb dX9_isAhead_50 (by decide) ?_
      exact e_zP (b := false) hx hb hr hP hS hlocks dX9_isAhead_51 rfl hF
    · have hF := ite_f c17 hF
      refine lv_iconst (v := 1) hx hb dX9_isAhead_46 (by decide) ?_
      refine lv_goto (tgt := 51) hx hb dX9_isAhead_47 (by decide) ?_
      exact e_zP (b := true) hx hb hr hP hS hlocks dX9_isAhead_51 rfl hF
def f_X9_prints_161 (rec119 : Int32 → Int32 → St → Option St) (v1 : Int32) (v2 : Int32) (v3 : Int32) (τ : St) : Option St := (if inb v2 10 then rec119 (v1 + v3) (v2 + (1 : Int32)) (up τ 67 v2.toNatClampNeg ((τ 61 8) - (1 : Int32))) else none)
theorem f_X9_prints_161_e {rec119 : Int32 → Int32 → St → Option St} {v1 : Int32} {v2 : Int32} {v3 : Int32} {τ : St} : f_X9_prints_161 rec119 v1 v2 v3 τ = (if inb v2 10 then rec119 (v1 + v3) (v2 + (1 : Int32)) (up τ 67 v2.toNatClampNeg ((τ 61 8) - (1 : Int32))) else none) := rfl
def f_X9_prints_119 : Nat → (Int32 → Int32 → St → Option St)
  | 0 => fun _ _ _ => none
  | fl + 1 => fun v1 v2 τ => (if (τ 61 7) ≤ v2 then (some τ) else (if inb v2 10 then ob (f_X9_sizeOf 62 (τ 66 v2.toNatClampNeg) τ) (fun q4 => if (v1 + q4) ≤ (30 : Int32) then f_X9_prints_161 (f_X9_prints_119 fl) v1 v2 q4 τ else (f_X9_prints_161 (f_X9_prints_119 fl) (0 : Int32) v2 q4 (up τ 61 8 ((τ 61 8) + (1 : Int32))))) else none))
theorem f_X9_prints_119_s (fl : Nat) {v1 : Int32} {v2 : Int32} {τ : St} : f_X9_prints_119 (fl + 1) v1 v2 τ = (if (τ 61 7) ≤ v2 then (some τ) else (if inb v2 10 then ob (f_X9_sizeOf 62 (τ 66 v2.toNatClampNeg) τ) (fun q4 => if (v1 + q4) ≤ (30 : Int32) then f_X9_prints_161 (f_X9_prints_119 fl) v1 v2 q4 τ else (f_X9_prints_161 (f_X9_prints_119 fl) (0 : Int32) v2 q4 (up τ 61 8 ((τ 61 8) + (1 : Int32))))) else none)) := rfl
def f_X9_prints_112 (y0 : Nat) (z1 : Int32) (τ : St) : Option St := (f_X9_prints_119 fu (0 : Int32) (0 : Int32) (up τ y0 8 z1))
theorem f_X9_prints_112_e {y0 : Nat} {z1 : Int32} {τ : St} : f_X9_prints_112 y0 z1 τ = (f_X9_prints_119 fu (0 : Int32) (0 : Int32) (up τ y0 8 z1)) := rfl
def f_X9_prints_93 (rec7 : Int32 → St → Option St) (v1 : Int32) (τ : St) : Option St := (rec7 (v1 + (1 : Int32)) τ)
theorem f_X9_prints_93_e {rec7 : Int32 → St → Option St} {v1 : Int32} {τ : St} : f_X9_prints_93 rec7 v1 τ = (rec7 (v1 + (1 : Int32)) τ) := rfl
def f_X9_prints_76 (rec7 : Int32 → St → Option St) (v1 : Int32) (v2 : Int32) (τ : St) : Option St := (if inb v2 10 then f_X9_prints_93 rec7 v1 (up (up τ 66 v2.toNatClampNeg v1) 61 7 (((up τ 66 v2.toNatClampNeg v1) 61 7) + (1 : Int32))) else none)
theorem f_X9_prints_76_e {rec7 : Int32 → St → Option St} {v1 : Int32} {v2 : Int32} {τ : St} : f_X9_prints_76 rec7 v1 v2 τ = (if inb v2 10 then f_X9_prints_93 rec7 v1 (up (up τ 66 v2.toNatClampNeg v1) 61 7 (((up τ 66 v2.toNatClampNeg v1) 61 7) + (1 : Int32))) else none) := rfl
def f_X9_prints_36 (rec7 : Int32 → St → Option St) : Nat → (Int32 → Int32 → St → Option St)
  | 0 => fun _ _ _ => none
  | fl + 1 => fun v1 v2 τ => (if v2 ≤ 0 then f_X9_prints_76 rec7 v1 v2 τ else (if inb (v2 - (1 : Int32)) 10 then ob (f_X9_isAhead v1 (τ 66 (v2 - (1 : Int32)).toNatClampNeg) τ) (fun q15 => if q15 = true then (if inb (v2 - (1 : Int32)) 10 then if inb v2 10 then (f_X9_prints_36 rec7 fl) v1 (v2 + (-1 : Int32)) (up τ 66 v2.toNatClampNeg (τ 66 (v2 - (1 : Int32)).toNatClampNeg)) else none else none) else f_X9_prints_76 rec7 v1 v2 τ) else none))
theorem f_X9_prints_36_s {rec7 : Int32 → St → Option St} (fl : Nat) {v1 : Int32} {v2 : Int32} {τ : St} : f_X9_prints_36 rec7 (fl + 1) v1 v2 τ = (if v2 ≤ 0 then f_X9_prints_76 rec7 v1 v2 τ else (if inb (v2 - (1 : Int32)) 10 then ob (f_X9_isAhead v1 (τ 66 (v2 - (1 : Int32)).toNatClampNeg) τ) (fun q15 => if q15 = true then (if inb (v2 - (1 : Int32)) 10 then if inb v2 10 then (f_X9_prints_36 rec7 fl) v1 (v2 + (-1 : Int32)) (up τ 66 v2.toNatClampNeg (τ 66 (v2 - (1 : Int32)).toNatClampNeg)) else none else none) else f_X9_prints_76 rec7 v1 v2 τ) else none)) := rfl
def f_X9_prints_7 : Nat → (Int32 → St → Option St)
  | 0 => fun _ _ => none
  | fl + 1 => fun v1 τ => (if (τ 62 0) ≤ v1 then (if (τ 61 7) ≤ 0 then (f_X9_prints_112 61 (0 : Int32) τ) else (f_X9_prints_112 61 (1 : Int32) τ)) else (ob (f_X9_isTold 62 v1 τ) (fun q9 => if q9 = true then (f_X9_prints_36 (f_X9_prints_7 fl) fu v1 (τ 61 7) τ) else (f_X9_prints_93 (f_X9_prints_7 fl) v1 τ))))
theorem f_X9_prints_7_s (fl : Nat) {v1 : Int32} {τ : St} : f_X9_prints_7 (fl + 1) v1 τ = (if (τ 62 0) ≤ v1 then (if (τ 61 7) ≤ 0 then (f_X9_prints_112 61 (0 : Int32) τ) else (f_X9_prints_112 61 (1 : Int32) τ)) else (ob (f_X9_isTold 62 v1 τ) (fun q9 => if q9 = true then (f_X9_prints_36 (f_X9_prints_7 fl) fu v1 (τ 61 7) τ) else (f_X9_prints_93 (f_X9_prints_7 fl) v1 τ)))) := rfl
def f_X9_prints (σ : St) : Option St := (f_X9_prints_7 fu (0 : Int32) (up σ 61 7 (0 : Int32)))
set_option maxRecDepth 100000 in
set_option maxHeartbeats 4000000 in
theorem t_X9_prints (l : Launch) (G : GT) (hG : Dw G) (σ : St) (o : St) (hF : f_X9_prints σ = some o) : Ct l G yX9_prints wsX9_prints 3 64 [.ref (gA G 61)] σ none o := by
  refine Met.ofW (cc := cX9_prints) (maxL := 4) (ret := none) (by decide) rfl ?_
  intro p e s m args below meth c s₁ B hml hv
  obtain ⟨rfl, hP, hK⟩ := hv
  have hx := B.exec
  have hb := B.bytes
  have hr := B.returns
  have hts := atoms_spec (ws := wsX9_prints) B.pre
  have hown : s.vm.findClass RX9 = some m.cls := findClass_of_methodNamed B.named
  have hlocks := B.notSynchronized
  have Z : CallFix p m c cX9_prints 4 s _ wsX9_prints RX9 := ⟨hx, hb, hml, hown, hts⟩
  have hS : va_S (AG G) s.heap s.heap [] := va_S.rf
  have inX9 : ∀ w ∈ u_ws RX9 TX9 21, w ∈ wsX9_prints := by decide +kernel
  have w1 := hts (.fieldLink RX9 85 "AlmanacOfTheYearGoneModel" "toldMany" "I") (by decide +kernel)
  have w2 := hts (.fieldLink RX9 9 "AlmanacOfTheYearGoneModel" "s" "[I") (by decide +kernel)
  have w3 := hts (.fieldLink RX9 92 "AlmanacOfTheYearGoneModel" "pageMany" "I") (by decide +kernel)
  have w4 := hts (.fieldLink RX9 22 "AlmanacOfTheYearGoneModel" "told" "[I") (by decide +kernel)
  have w5 := hts (.fieldLink RX9 25 "AlmanacOfTheYearGoneModel" "page" "[I") (by decide +kernel)
  have hl := lv_entry ([.ref (gA G 61)]) (n := 4) (Nat.le_of_ble_eq_true rfl)
  rw [lg_entry_eq]
  generalize (lg_sl ([.ref (gA G 61)]) ++ List.replicate (4 - (lg_sl ([.ref (gA G 61)])).length) Slot.unset).toArray = ls at hl ⊢
  have hl : lv_has ls 4 [(0, .ref (gA G 61))] := hl
  unfold f_X9_prints at hF
  refine lv_aload_n hx hb dX9_prints_0 rfl (lv_at hl 0 rfl) ?_
  refine lv_iconst (v := 0) hx hb dX9_prints_1 (by decide) ?_
  refine va_put (ci := 5) (C := RX9) (T := TX9) (N := 21) (v := .int (0 : Int32)) (ty := .int) hx hb hts inX9 tyX9 tyX9_ok nmX9 hown hK.1 hP (Dw.D hG) hS 61 (at_5 rfl) rfl 7 (by decide) w1 (fun _ h9 => h9) rfl (by decide +kernel) rfl rfl (Nat.le_of_ble_eq_true rfl) dX9_prints_2 (fun H locs hP _ hS => ?_)
  have hP := Pw.of hP (set_5_7 rfl)
  refine lv_iconst (v := 0) hx hb dX9_prints_5 (by decide) ?_
  have J7 : ∀ (fl : Nat) (v1 : Int32) (τ : St) (H : Heap) (locs : List Loc) (hP : Pw G τ H) (hS : va_S (AG G) s.heap H locs) (ls : Array Slot) (hl : lv_has ls 4 [(0, .ref (gA G 61)), (1, .int v1)]) (hF : f_X9_prints_7 fl v1 τ = some o), W p l e (headSpec wsX9_prints ({ frames := 3, cells := 0, slots := 0, locals := 64 })).room s m ([.ref (gA G 61)] : List Value).toArray below meth c H locs 0 0 (MQ below (qR G none o) ([.ref (gA G 61)] : List Value).toArray s 0 0 (AG G)) (F0 m 7 ls []) := by
    intro fl7
    induction fl7 with
    | zero => intro v1 τ H locs hP hS ls hl hF; cases hF
    | succ fl7 ih7 =>
      intro v1 τ H locs hP hS ls hl hF
      rw [f_X9_prints_7_s] at hF
      refine lv_iload_n hx hb dX9_prints_7 rfl (lv_at hl 1 rfl) ?_
      refine lv_aload_n hx hb dX9_prints_8 rfl (lv_at hl 0 rfl) ?_
      refine va_get (ci := 5) (C := RX9) (T := TX9) (N := 21) (v := .ref (gA G 62)) hx hb hts inX9 hown hK.1 hP 61 (at_5 rfl) rfl 0 (by decide) w2 (fun _ h9 => h9) rfl dX9_prints_9 ?_
      refine lv_iconst (v := 0) hx hb dX9_prints_12 (by decide) ?_
      refine va_iald hx hb hK.1 hP 62 0 (at_6 (rfl : kd 62 = 6) (rfl : ln 62 = 52)) rfl (inb_in (by decide)) dX9_prints_13 ?_
      refine W.eq (g2 := F0 m 14 ls ([.int (τ 62 0), .int v1])) rfl ?_
      refine lv_icmp_ge (tgt := 99) hx hb dX9_prints_14 (by decide) (fun c1 => ?_) (fun c1 => ?_)
      · have hF := ite_t c1 hF
        refine lv_aload_n hx hb dX9_prints_99 rfl (lv_at hl 0 rfl) ?_
        refine lv_aload_n hx hb dX9_prints_100 rfl (lv_at hl 0 rfl) ?_
        refine va_get (ci := 5) (C := RX9) (T := TX9) (N := 21) (v := .int (τ 61 7)) hx hb hts inX9 hown hK.1 hP 61 (at_5 rfl) rfl 7 (by decide) w1 (fun _ h9 => h9) rfl dX9_prints_101 ?_
        have J112 : ∀ (y0 : Nat) (z1 : Int32) (τ : St) (hy0 : kd y0 = 5) (H : Heap) (locs : List Loc) (hP : Pw G τ H) (hS : va_S (AG G) s.heap H locs) (ls : Array Slot) (hl : lv_has ls 4 [(0, .ref (gA G 61))]) (hF : f_X9_prints_112 y0 z1 τ = some o), W p l e (headSpec wsX9_prints ({ frames := 3, cells := 0, slots := 0, locals := 64 })).room s m ([.ref (gA G 61)] : List Value).toArray below meth c H locs 0 0 (MQ below (qR G none o) ([.ref (gA G 61)] : List Value).toArray s 0 0 (AG G)) (F0 m 112 ls [.int z1, .ref (gA G y0)]) := by
          intro y0 z1 τ hy0 H locs hP hS ls hl hF
          rw [f_X9_prints_112_e] at hF
          refine va_put (ci := 5) (C := RX9) (T := TX9) (N := 21) (v := .int z1) (ty := .int) hx hb hts inX9 tyX9 tyX9_ok nmX9 hown hK.1 hP (Dw.D hG) hS y0 (at_5 hy0) rfl 8 (by decide) w3 (fun _ h9 => h9) rfl (by decide +kernel) rfl rfl (Nat.le_of_ble_eq_true rfl) dX9_prints_112 (fun H locs hP _ hS => ?_)
          have hP := Pw.of hP (set_5_8 hy0)
          refine lv_iconst (v := 0) hx hb dX9_prints_115 (by decide) ?_
          refine lv_istore_n (lv' := [(1, .int (0 : Int32)), (0, .ref (gA G 61))]) hx hb dX9_prints_116 rfl hl (by decide) rfl (fun ls hl => ?_)
          refine lv_iconst (v := 0) hx hb dX9_prints_117 (by decide) ?_
          have J119 : ∀ (fl : Nat) (v1 : Int32) (v2 : Int32) (τ : St) (H : Heap) (locs : List Loc) (hP : Pw G τ H) (hS : va_S (AG G) s.heap H locs) (ls : Array Slot) (hl : lv_has ls 4 [(0, .ref (gA G 61)), (1, .int v1), (2, .int v2)]) (hF : f_X9_prints_119 fl v1 v2 τ = some o), W p l e (headSpec wsX9_prints ({ frames := 3, cells := 0, slots := 0, locals := 64 })).room s m ([.ref (gA G 61)] : List Value).toArray below meth c H locs 0 0 (MQ below (qR G none o) ([.ref (gA G 61)] : List Value).toArray s 0 0 (AG G)) (F0 m 119 ls []) := by
            intro fl119
            induction fl119 with
            | zero => intro v1 v2 τ H locs hP hS ls hl hF; cases hF
            | succ fl119 ih119 =>
              intro v1 v2 τ H locs hP hS ls hl hF
              rw [f_X9_prints_119_s] at hF
              refine lv_iload_n hx hb dX9_prints_119 rfl (lv_at hl 2 rfl) ?_
              refine lv_aload_n hx hb dX9_prints_120 rfl (lv_at hl 0 rfl) ?_
              refine va_get (ci := 5) (C := RX9) (T := TX9) (N := 21) (v := .int (τ 61 7)) hx hb hts inX9 hown hK.1 hP 61 (at_5 rfl) rfl 7 (by decide) w1 (fun _ h9 => h9) rfl dX9_prints_121 ?_
              refine lv_icmp_ge (tgt := 183) hx hb dX9_prints_124 (by decide) (fun c2 => ?_) (fun c2 => ?_)
              · have hF := ite_t c2 hF
                exact e_vS hx hb hr hP hS hlocks dX9_prints_183 hF
              · have hF := ite_f c2 hF
                refine lv_aload_n hx hb dX9_prints_127 rfl (lv_at hl 0 rfl) ?_
                refine va_get (ci := 5) (C := RX9) (T := TX9) (N := 21) (v := .ref (gA G 62)) hx hb hts inX9 hown hK.1 hP 61 (at_5 rfl) rfl 0 (by decide) w2 (fun _ h9 => h9) rfl dX9_prints_128 ?_
                refine lv_aload_n hx hb dX9_prints_131 rfl (lv_at hl 0 rfl) ?_
                refine va_get (ci := 5) (C := RX9) (T := TX9) (N := 21) (v := .ref (gA G 66)) hx hb hts inX9 hown hK.1 hP 61 (at_5 rfl) rfl 5 (by decide) w4 (fun _ h9 => h9) rfl dX9_prints_132 ?_
                refine lv_iload_n hx hb dX9_prints_135 rfl (lv_at hl 2 rfl) ?_
                obtain ⟨b3, hF⟩ := ite_some hF
                refine va_iald hx hb hK.1 hP 66 0 (at_6 (rfl : kd 66 = 6) (rfl : ln 66 = 10)) rfl (inb_in b3) dX9_prints_136 ?_
                obtain ⟨q4, h5, hF⟩ := ob_some hF
                refine k_Sv (As := [.ref (gA G 62), .int (τ 66 v2.toNatClampNeg)]) (rest := []) Z hK hP hS (t_X9_sizeOf l G hG 62 (τ 66 v2.toNatClampNeg) ⟨(rfl : kd 62 = 6), (rfl : ln 62 = 52)⟩ τ _ h5) (va_cwS 2 hts gX9_prints_X9_sizeOf rfl rfl rfl (by decide +kernel) ⟨Nat.le_of_ble_eq_true rfl, Nat.le_of_ble_eq_true rfl⟩) rfl hl.1 rfl (Nat.le_of_ble_eq_true rfl) ⟨Nat.zero_le _, Nat.zero_le _⟩ dX9_prints_137 (fun H locs hP hS => ?_)
                refine lv_istore_n (lv' := [(3, .int q4), (0, .ref (gA G 61)), (1, .int v1), (2, .int v2)]) hx hb dX9_prints_140 rfl hl (by decide) rfl (fun ls hl => ?_)
                refine lv_iload_n hx hb dX9_prints_141 rfl (lv_at hl 2 rfl) ?_
                refine lv_iload_n hx hb dX9_prints_142 rfl (lv_at hl 0 rfl) ?_
                refine lv_iadd hx hb dX9_prints_143 ?_
                refine lv_bipush (v := 30) hx hb dX9_prints_144 (by decide) ?_
                have J161 : ∀ (v1 : Int32) (v2 : Int32) (v3 : Int32) (τ : St) (H : Heap) (locs : List Loc) (hP : Pw G τ H) (hS : va_S (AG G) s.heap H locs) (ls : Array Slot) (hl : lv_has ls 4 [(0, .ref (gA G 61)), (1, .int v1), (2, .int v2), (3, .int v3)]) (hF : f_X9_prints_161 (f_X9_prints_119 fl119) v1 v2 v3 τ = some o), W p l e (headSpec wsX9_prints ({ frames := 3, cells := 0, slots := 0, locals := 64 })).room s m ([.ref (gA G 61)] : List Value).toArray below meth c H locs 0 0 (MQ below (qR G none o) ([.ref (gA G 61)] : List Value).toArray s 0 0 (AG G)) (F0 m 161 ls []) := by
                  intro v1 v2 v3 τ H locs hP hS ls hl hF
                  rw [f_X9_prints_161_e] at hF
                  refine lv_iload_n hx hb dX9_prints_161 rfl (lv_at hl 1 rfl) ?_
                  refine lv_iload_n hx hb dX9_prints_162 rfl (lv_at hl 3 rfl) ?_
                  refine lv_iadd hx hb dX9_prints_163 ?_
                  refine lv_istore_n (lv' := [(1, .int (v1 + v3)), (0, .ref (gA G 61)), (2, .int v2), (3, .int v3)]) hx hb dX9_prints_164 rfl hl (by decide) rfl (fun ls hl => ?_)
                  refine lv_aload_n hx hb dX9_prints_165 rfl (lv_at hl 1 rfl) ?_
                  refine va_get (ci := 5) (C := RX9) (T := TX9) (N := 21) (v := .ref (gA G 67)) hx hb hts inX9 hown hK.1 hP 61 (at_5 rfl) rfl 6 (by decide) w5 (fun _ h9 => h9) rfl dX9_prints_166 ?_
                  refine lv_iload_n hx hb dX9_prints_169 rfl (lv_at hl 2 rfl) ?_
                  refine lv_aload_n hx hb dX9_prints_170 rfl (lv_at hl 1 rfl) ?_
                  refine va_get (ci := 5) (C := RX9) (T := TX9) (N := 21) (v := .int (τ 61 8)) hx hb hts inX9 hown hK.1 hP 61 (at_5 rfl) rfl 8 (by decide) w3 (fun _ h9 => h9) rfl dX9_prints_171 ?_
                  refine lv_iconst (v := 1) hx hb dX9_prints_174 (by decide) ?_
                  refine lv_isub hx hb dX9_prints_175 ?_
                  obtain ⟨b6, hF⟩ := ite_some hF
                  refine va_iast hx hb hK.1 hP (Dw.D hG) hS 67 0 (at_6 (rfl : kd 67 = 6) (rfl : ln 67 = 10)) rfl (inb_in b6) dX9_prints_176 (fun H locs hP _ hS => ?_)
                  have hP : Pw G (up τ 67 v2.toNatClampNeg ((τ 61 8) - (1 : Int32))) H := Pw.of hP (set_6 (rfl : kd 67 = 6) (rfl : ln 67 = 10))
                  refine lv_iinc (v := (v2 + (1 : Int32))) (lv' := [(2, .int (v2 + (1 : Int32))), (1, .int (v1 + v3)), (0, .ref (gA G 61)), (3, .int v3)]) hx hb dX9_prints_177 hl (k := 2) rfl rfl (by decide) rfl (fun ls hl => ?_)
                  refine lv_goto (tgt := 119) hx hb dX9_prints_180 (by decide) ?_
                  exact ih119 (v1 + v3) (v2 + (1 : Int32)) (up τ 67 v2.toNatClampNeg ((τ 61 8) - (1 : Int32))) _ _ hP hS ls (lv_sub hl [2, 1, 0] rfl) hF
                refine lv_icmp_le (tgt := 161) hx hb dX9_prints_146 (by decide) (fun c7 => ?_) (fun c7 => ?_)
                · have hF := ite_t c7 hF
                  exact J161 v1 v2 q4 τ _ _ hP hS ls (lv_sub hl [1, 2, 3, 0] rfl) hF
                · have hF := ite_f c7 hF
                  refine lv_aload_n hx hb dX9_prints_149 rfl (lv_at hl 1 rfl) ?_
                  refine lv_dup hx hb dX9_prints_150 rfl ?_
                  refine va_get (ci := 5) (C := RX9) (T := TX9) (N := 21) (v := .int (τ 61 8)) hx hb hts inX9 hown hK.1 hP 61 (at_5 rfl) rfl 8 (by decide) w3 (fun _ h9 => h9) rfl dX9_prints_151 ?_
                  refine lv_iconst (v := 1) hx hb dX9_prints_154 (by decide) ?_
                  refine lv_iadd hx hb dX9_prints_155 ?_
                  refine va_put (ci := 5) (C := RX9) (T := TX9) (N := 21) (v := .int ((τ 61 8) + (1 : Int32))) (ty := .int) hx hb hts inX9 tyX9 tyX9_ok nmX9 hown hK.1 hP (Dw.D hG) hS 61 (at_5 rfl) rfl 8 (by decide) w3 (fun _ h9 => h9) rfl (by decide +kernel) rfl rfl (Nat.le_of_ble_eq_true rfl) dX9_prints_156 (fun H locs hP _ hS => ?_)
                  have hP := Pw.of hP (set_5_8 rfl)
                  refine lv_iconst (v := 0) hx hb dX9_prints_159 (by decide) ?_
                  refine lv_istore_n (lv' := [(1, .int (0 : Int32)), (3, .int q4), (0, .ref (gA G 61)), (2, .int v2)]) hx hb dX9_prints_160 rfl hl (by decide) rfl (fun ls hl => ?_)
                  exact J161 (0 : Int32) v2 q4 (up τ 61 8 ((τ 61 8) + (1 : Int32))) _ _ hP hS ls (lv_sub hl [2, 0, 3, 1] rfl) hF
          refine lv_istore_n (lv' := [(2, .int (0 : Int32)), (1, .int (0 : Int32)), (0, .ref (gA G 61))]) hx hb dX9_prints_118 rfl hl (by decide) rfl (fun ls hl => ?_)
          exact J119 fu (0 : Int32) (0 : Int32) (up τ y0 8 z1) _ _ hP hS ls (lv_sub hl [2, 1, 0] rfl) hF
        refine lv_if_le (tgt := 111) hx hb dX9_prints_104 (by decide) (fun c8 => ?_) (fun c8 => ?_)
        · have hF := ite_t c8 hF
          refine lv_iconst (v := 0) hx hb dX9_prints_111 (by decide) ?_
          exact J112 61 (0 : Int32) τ (rfl) _ _ hP hS ls (lv_sub hl [0] rfl) hF
        · have hF := ite_f c8 hF
          refine lv_iconst (v := 1) hx hb dX9_prints_107 (by decide) ?_
          refine lv_goto (tgt := 112) hx hb dX9_prints_108 (by decide) ?_
          exact J112 61 (1 : Int32) τ (rfl) _ _ hP hS ls (lv_sub hl [0] rfl) hF
      · have hF := ite_f c1 hF
        refine lv_aload_n hx hb dX9_prints_17 rfl (lv_at hl 0 rfl) ?_
        refine va_get (ci := 5) (C := RX9) (T := TX9) (N := 21) (v := .ref (gA G 62)) hx hb hts inX9 hown hK.1 hP 61 (at_5 rfl) rfl 0 (by decide) w2 (fun _ h9 => h9) rfl dX9_prints_18 ?_
        refine lv_iload_n hx hb dX9_prints_21 rfl (lv_at hl 1 rfl) ?_
        obtain ⟨q9, h10, hF⟩ := ob_some hF
        refine k_Sv (As := [.ref (gA G 62), .int v1]) (rest := []) Z hK hP hS (t_X9_isTold l G hG 62 v1 ⟨(rfl : kd 62 = 6), (rfl : ln 62 = 52)⟩ τ _ h10) (va_cwS 2 hts gX9_prints_X9_isTold rfl rfl rfl (by decide +kernel) ⟨Nat.le_of_ble_eq_true rfl, Nat.le_of_ble_eq_true rfl⟩) rfl hl.1 rfl (Nat.le_of_ble_eq_true rfl) ⟨Nat.zero_le _, Nat.zero_le _⟩ dX9_prints_22 (fun H locs hP hS => ?_)
        have J93 : ∀ (v1 : Int32) (τ : St) (H : Heap) (locs : List Loc) (hP : Pw G τ H) (hS : va_S (AG G) s.heap H locs) (ls : Array Slot) (hl : lv_has ls 4 [(0, .ref (gA G 61)), (1, .int v1)]) (hF : f_X9_prints_93 (f_X9_prints_7 fl7) v1 τ = some o), W p l e (headSpec wsX9_prints ({ frames := 3, cells := 0, slots := 0, locals := 64 })).room s m ([.ref (gA G 61)] : List Value).toArray below meth c H locs 0 0 (MQ below (qR G none o) ([.ref (gA G 61)] : List Value).toArray s 0 0 (AG G)) (F0 m 93 ls []) := by
          intro v1 τ H locs hP hS ls hl hF
          rw [f_X9_prints_93_e] at hF
          refine lv_iinc (v := (v1 + (1 : Int32))) (lv' := [(1, .int (v1 + (1 : Int32))), (0, .ref (gA G 61))]) hx hb dX9_prints_93 hl (k := 1) rfl rfl (by decide) rfl (fun ls hl => ?_)
          refine lv_goto (tgt := 7) hx hb dX9_prints_96 (by decide) ?_
          exact ih7 (v1 + (1 : Int32)) τ _ _ hP hS ls (lv_sub hl [1, 0] rfl) hF
        refine lv_if_ne (tgt := 31) hx hb dX9_prints_25 (by decide) (fun c11 => ?_) (fun c11 => ?_)
        · have hF := ite_t (b2i_n0 c11) hF
          refine lv_aload_n hx hb dX9_prints_31 rfl (lv_at hl 0 rfl) ?_
          refine va_get (ci := 5) (C := RX9) (T := TX9) (N := 21) (v := .int (τ 61 7)) hx hb hts inX9 hown hK.1 hP 61 (at_5 rfl) rfl 7 (by decide) w1 (fun _ h9 => h9) rfl dX9_prints_32 ?_
          have J36 : ∀ (fl : Nat) (v1 : Int32) (v2 : Int32) (τ : St) (H : Heap) (locs : List Loc) (hP : Pw G τ H) (hS : va_S (AG G) s.heap H locs) (ls : Array Slot) (hl : lv_has ls 4 [(0, .ref (gA G 61)), (1, .int v1), (2, .int v2)]) (hF : f_X9_prints_36 (f_X9_prints_7 fl7) fl v1 v2 τ = some o), W p l e (headSpec wsX9_prints ({ frames := 3, cells := 0, slots := 0, locals := 64 })).room s m ([.ref (gA G 61)] : List Value).toArray below meth c H locs 0 0 (MQ below (qR G none o) ([.ref (gA G 61)] : List Value).toArray s 0 0 (AG G)) (F0 m 36 ls []) := by
            intro fl36
            induction fl36 with
            | zero => intro v1 v2 τ H locs hP hS ls hl hF; cases hF
            | succ fl36 ih36 =>
              intro v1 v2 τ H locs hP hS ls hl hF
              rw [f_X9_prints_36_s] at hF
              refine lv_iload_n hx hb dX9_prints_36 rfl (lv_at hl 2 rfl) ?_
              have J76 : ∀ (v1 : Int32) (v2 : Int32) (τ : St) (H : Heap) (locs : List Loc) (hP : Pw G τ H) (hS : va_S (AG G) s.heap H locs) (ls : Array Slot) (hl : lv_has ls 4 [(0, .ref (gA G 61)), (1, .int v1), (2, .int v2)]) (hF : f_X9_prints_76 (f_X9_prints_7 fl7) v1 v2 τ = some o), W p l e (headSpec wsX9_prints ({ frames := 3, cells := 0, slots := 0, locals := 64 })).room s m ([.ref (gA G 61)] : List Value).toArray below meth c H locs 0 0 (MQ below (qR G none o) ([.ref (gA G 61)] : List Value).toArray s 0 0 (AG G)) (F0 m 76 ls []) := by
                intro v1 v2 τ H locs hP hS ls hl hF
                rw [f_X9_prints_76_e] at hF
                refine lv_aload_n hx hb dX9_prints_76 rfl (lv_at hl 0 rfl) ?_
                refine va_get (ci := 5) (C := RX9) (T := TX9) (N := 21) (v := .ref (gA G 66)) hx hb hts inX9 hown hK.1 hP 61 (at_5 rfl) rfl 5 (by decide) w4 (fun _ h9 => h9) rfl dX9_prints_77 ?_
                refine lv_iload_n hx hb dX9_prints_80 rfl (lv_at hl 2 rfl) ?_
                refine lv_iload_n hx hb dX9_prints_81 rfl (lv_at hl 1 rfl) ?_
                obtain ⟨b12, hF⟩ := ite_some hF
                refine va_iast hx hb hK.1 hP (Dw.D hG) hS 66 0 (at_6 (rfl : kd 66 = 6) (rfl : ln 66 = 10)) rfl (inb_in b12) dX9_prints_82 (fun H locs hP _ hS => ?_)
                have hP : Pw G (up τ 66 v2.toNatClampNeg v1) H := Pw.of hP (set_6 (rfl : kd 66 = 6) (rfl : ln 66 = 10))
                refine lv_aload_n hx hb dX9_prints_83 rfl (lv_at hl 0 rfl) ?_
                refine lv_dup hx hb dX9_prints_84 rfl ?_
                refine va_get (ci := 5) (C := RX9) (T := TX9) (N := 21) (v := .int ((up τ 66 v2.toNatClampNeg v1) 61 7)) hx hb hts inX9 hown hK.1 hP 61 (at_5 rfl) rfl 7 (by decide) w1 (fun _ h9 => h9) rfl dX9_prints_85 ?_
                refine lv_iconst (v := 1) hx hb dX9_prints_88 (by decide) ?_
                refine lv_iadd hx hb dX9_prints_89 ?_
                refine va_put (ci := 5) (C := RX9) (T := TX9) (N := 21) (v := .int (((up τ 66 v2.toNatClampNeg v1) 61 7) + (1 : Int32))) (ty := .int) hx hb hts inX9 tyX9 tyX9_ok nmX9 hown hK.1 hP (Dw.D hG) hS 61 (at_5 rfl) rfl 7 (by decide) w1 (fun _ h9 => h9) rfl (by decide +kernel) rfl rfl (Nat.le_of_ble_eq_true rfl) dX9_prints_90 (fun H locs hP _ hS => ?_)
                have hP := Pw.of hP (set_5_7 rfl)
                exact J93 v1 (up (up τ 66 v2.toNatClampNeg v1) 61 7 (((up τ 66 v2.toNatClampNeg v1) 61 7) + (1 : Int32))) _ _ hP hS ls (lv_sub hl [0, 1] rfl) hF
              refine lv_if_le (tgt := 76) hx hb dX9_prints_37 (by decide) (fun c13 => ?_) (fun c13 => ?_)
              · have hF := ite_t c13 hF
                exact J76 v1 v2 τ _ _ hP hS ls (lv_sub hl [0, 1, 2] rfl) hF
              · have hF := ite_f c13 hF
                refine lv_aload_n hx hb dX9_prints_40 rfl (lv_at hl 0 rfl) ?_
                refine lv_iload_n hx hb dX9_prints_41 rfl (lv_at hl 1 rfl) ?_
                refine lv_aload_n hx hb dX9_prints_42 rfl (lv_at hl 0 rfl) ?_
                refine va_get (ci := 5) (C := RX9) (T := TX9) (N := 21) (v := .ref (gA G 66)) hx hb hts inX9 hown hK.1 hP 61 (at_5 rfl) rfl 5 (by decide) w4 (fun _ h9 => h9) rfl dX9_prints_43 ?_
                refine lv_iload_n hx hb dX9_prints_46 rfl (lv_at hl 2 rfl) ?_
                refine lv_iconst (v := 1) hx hb dX9_prints_47 (by decide) ?_
                refine lv_isub hx hb dX9_prints_48 ?_
                obtain ⟨b14, hF⟩ := ite_some hF
                refine va_iald hx hb hK.1 hP 66 0 (at_6 (rfl : kd 66 = 6) (rfl : ln 66 = 10)) rfl (inb_in b14) dX9_prints_49 ?_
                obtain ⟨q15, h16, hF⟩ := ob_some hF
                refine k_Vv (As := [.int v1, .int (τ 66 (v2 - (1 : Int32)).toNatClampNeg)]) (rest := []) Z hK hP hS (t_X9_isAhead l G hG v1 (τ 66 (v2 - (1 : Int32)).toNatClampNeg) τ _ h16) (cwV 2 hts gX9_prints_X9_isAhead rfl rfl rfl (by decide +kernel) ⟨Nat.le_of_ble_eq_true rfl, Nat.le_of_ble_eq_true rfl⟩) (at_5 rfl) rfl rfl hl.1 rfl (Nat.le_of_ble_eq_true rfl) ⟨Nat.zero_le _, Nat.zero_le _⟩ dX9_prints_50 (fun H locs hP hS => ?_)
                refine lv_if_eq (tgt := 76) hx hb dX9_prints_53 (by decide) (fun c17 => ?_) (fun c17 => ?_)
                · have hF := ite_f (b2i_e0 c17) hF
                  exact J76 v1 v2 τ _ _ hP hS ls (lv_sub hl [0, 1, 2] rfl) hF
                · have hF := ite_t (b2i_n0 c17) hF
                  refine lv_aload_n hx hb dX9_prints_56 rfl (lv_at hl 0 rfl) ?_
                  refine va_get (ci := 5) (C := RX9) (T := TX9) (N := 21) (v := .ref (gA G 66)) hx hb hts inX9 hown hK.1 hP 61 (at_5 rfl) rfl 5 (by decide) w4 (fun _ h9 => h9) rfl dX9_prints_57 ?_
                  refine lv_iload_n hx hb dX9_prints_60 rfl (lv_at hl 2 rfl) ?_
                  refine lv_aload_n hx hb dX9_prints_61 rfl (lv_at hl 0 rfl) ?_
                  refine va_get (ci := 5) (C := RX9) (T := TX9) (N := 21) (v := .ref (gA G 66)) hx hb hts inX9 hown hK.1 hP 61 (at_5 rfl) rfl 5 (by decide) w4 (fun _ h9 => h9) rfl dX9_prints_62 ?_
                  refine lv_iload_n hx hb dX9_prints_65 rfl (lv_at hl 2 rfl) ?_
                  refine lv_iconst (v := 1) hx hb dX9_prints_66 (by decide) ?_
                  refine lv_isub hx hb dX9_prints_67 ?_
                  obtain ⟨b18, hF⟩ := ite_some hF
                  refine va_iald hx hb hK.1 hP 66 0 (at_6 (rfl : kd 66 = 6) (rfl : ln 66 = 10)) rfl (inb_in b18) dX9_prints_68 ?_
                  obtain ⟨b19, hF⟩ := ite_some hF
                  refine va_iast hx hb hK.1 hP (Dw.D hG) hS 66 0 (at_6 (rfl : kd 66 = 6) (rfl : ln 66 = 10)) rfl (inb_in b19) dX9_prints_69 (fun H locs hP _ hS => ?_)
                  have hP : Pw G (up τ 66 v2.toNatClampNeg (τ 66 (v2 - (1 : Int32)).toNatClampNeg)) H := Pw.of hP (set_6 (rfl : kd 66 = 6) (rfl : ln 66 = 10))
                  refine lv_iinc (v := (v2 + (-1 : Int32))) (lv' := [(2, .int (v2 + (-1 : Int32))), (0, .ref (gA G 61)), (1, .int v1)]) hx hb dX9_prints_70 hl (k := 2) rfl rfl (by decide) rfl (fun ls hl => ?_)
                  refine lv_goto (tgt := 36) hx hb dX9_prints_73 (by decide) ?_
                  exact ih36 v1 (v2 + (-1 : Int32)) (up τ 66 v2.toNatClampNeg (τ 66 (v2 - (1 : Int32)).toNatClampNeg)) _ _ hP hS ls (lv_sub hl [1, 2, 0] rfl) hF
          refine lv_istore_n (lv' := [(2, .int (τ 61 7)), (0, .ref (gA G 61)), (1, .int v1)]) hx hb dX9_prints_35 rfl hl (by decide) rfl (fun ls hl => ?_)
          exact J36 fu v1 (τ 61 7) τ _ _ hP hS ls (lv_sub hl [1, 2, 0] rfl) hF
        · have hF := ite_f (b2i_e0 c11) hF
          refine lv_goto (tgt := 93) hx hb dX9_prints_28 (by decide) ?_
          exact J93 v1 τ _ _ hP hS ls (lv_sub hl [0, 1] rfl) hF
  refine lv_istore_n (lv' := [(1, .int (0 : Int32)), (0, .ref (gA G 61))]) hx hb dX9_prints_6 rfl hl (by decide) rfl (fun ls hl => ?_)
  exact J7 fu (0 : Int32) (up σ 61 7 (0 : Int32)) _ _ hP hS ls (lv_sub hl [1, 0] rfl) hF
