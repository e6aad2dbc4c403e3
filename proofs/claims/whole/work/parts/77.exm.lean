/-! EXCEPTIONS: the methods that throw and catch -/
def f_X4_fail (x0 : Int32) (x1 : Int32) : Nat := (if x1 = 0 then 0 else (if x0 = (1 : Int32) then 2 else if x0 = (2 : Int32) then 1 else if x0 = (3 : Int32) then 1 else if x0 = (4 : Int32) then 0 else if x0 = (5 : Int32) then 2 else if x0 = (6 : Int32) then 0 else if x0 = (7 : Int32) then 3 else 1))
set_option maxRecDepth 100000 in
set_option maxHeartbeats 4000000 in
theorem t_X4_fail (l : Launch) (hfl : l.stackTraces = false) (G : GT) (hG : Dw G) (x0 : Int32) (x1 : Int32) (σ : St) (o : Nat) (hF : f_X4_fail x0 x1 = o) : vx_Met l yX4_fail wsX4_fail ({ frames := 6, cells := 1, slots := 6, locals := 90 }) (va_Pc [.int x0, .int x1] (fun U => Pw G σ U.heap ∧ Kw G U ∧ Xs G U)) (va_Qv (fun _ : Unit => o = 0) (fun _ t => Pw G σ t.heap) (AG G)) (vx_X (fun _ : Unit => True) (fun E _ t => (o ≠ 0 ∧ E = exN o) ∧ Pw G σ t.heap) (AG G)) 1 6 (AG G) := by
  refine vx_ofW (cc := cX4_fail) (maxL := 2) (ret := none) (by decide) rfl ?_
  intro p e s m args below meth c s₁ B hml htab hv
  obtain ⟨rfl, hP, hK, hX⟩ := hv
  have hx := B.exec
  have hb := B.bytes
  have hr := B.returns
  have hts := atoms_spec (ws := wsX4_fail) B.pre
  have hown : s.vm.findClass RX4 = some m.cls := findClass_of_methodNamed B.named
  have hlocks := B.notSynchronized
  have Z : CallFix p m c cX4_fail 2 s _ wsX4_fail RX4 := ⟨hx, hb, hml, hown, hts⟩
  have hS : va_S (AG G) s.heap s.heap [] := va_S.rf
  have w1 := hts (.classLink RX4 9 "java/lang/IllegalStateException") (by decide +kernel)
  have w2 := hts (.initialized "java/lang/IllegalStateException") (by decide +kernel)
  have w3 := hts (.classLink RX4 21 "java/lang/IllegalArgumentException") (by decide +kernel)
  have w4 := hts (.initialized "java/lang/IllegalArgumentException") (by decide +kernel)
  have w5 := hts (.classLink RX4 16 "java/lang/UnsupportedOperationException") (by decide +kernel)
  have w6 := hts (.initialized "java/lang/UnsupportedOperationException") (by decide +kernel)
  have hl := lv_entry ([.int x0, .int x1]) (n := 2) (Nat.le_of_ble_eq_true rfl)
  rw [lg_entry_eq]
  generalize (lg_sl ([.int x0, .int x1]) ++ List.replicate (2 - (lg_sl ([.int x0, .int x1])).length) Slot.unset).toArray = ls at hl ⊢
  have hl : lv_has ls 2 [(0, .int x0), (1, .int x1)] := hl
  unfold f_X4_fail at hF
  refine lv_iload_n hx hb dX4_fail_0 rfl (lv_at hl 1 rfl) ?_
  refine lv_if_ne (tgt := 5) hx hb dX4_fail_1 (by decide) (fun c1 => ?_) (fun c1 => ?_)
  · have hF := ite_f c1 hF
    refine lv_iload_n hx hb dX4_fail_5 rfl (lv_at hl 0 rfl) ?_
    by_cases c2 : x0 = (1 : Int32)
    · have hF := ite_t c2 hF
      refine lv_tableIn (off := 43) (tgt := 49) hx hb dX4_fail_6 (by rw [c2]; decide) (by rw [c2]; decide) (by rw [c2]; rfl) (by decide) ?_
      obtain ⟨sa, hstr⟩ := hX.g11
      have hat : ∀ w ∈ vx_atS RX4 13 "java/lang/IllegalStateException" ["java/lang/RuntimeException", "java/lang/Exception"], w.before _ s = true := vx_hat (fun w hw => hts w (List.mem_cons_of_mem _ (List.mem_append_left _ (List.mem_append_left _ (List.mem_append_right _ hw))))) (B := excW) (by decide +kernel) (fun w hw => va_Nw.use (exc_on hw) (hX.1 w hw))
      exact vx_throwS (cls := "java/lang/IllegalStateException") (text := "a GOOD one fails") (names := ["java/lang/RuntimeException", "java/lang/Exception"]) hx hb hfl hown (by decide +kernel) (by decide +kernel) w1 w2 hstr hat (by decide +kernel) hX.U hX.N hS (hl.1.trans hml.symm) dX4_fail_49 dX4_fail_52 dX4_fail_53 dX4_fail_55 dX4_fail_58 (fun x h9 => (htab x h9).elim) (Nat.le_of_ble_eq_true rfl) (Nat.le_of_ble_eq_true rfl) (Nat.le_of_ble_eq_true rfl) (Nat.le_of_ble_eq_true rfl) hlocks (fun t ha h1 h2 => ⟨(), trivial, ⟨⟨by rw [← hF]; decide, by rw [← hF]; rfl⟩, (xc_of hG hP hS h1 h2).1⟩, (xc_of hG hP hS h1 h2).2⟩) hS.2.2 (Nat.le_of_ble_eq_true rfl) (Nat.le_of_ble_eq_true rfl)
    · have hF := ite_f c2 hF
      by_cases c3 : x0 = (2 : Int32)
      · have hF := ite_t c3 hF
        refine lv_tableIn (off := 63) (tgt := 69) hx hb dX4_fail_6 (by rw [c3]; decide) (by rw [c3]; decide) (by rw [c3]; rfl) (by decide) ?_
        obtain ⟨sa, hstr⟩ := hX.g23
        have hat : ∀ w ∈ vx_atS RX4 25 "java/lang/IllegalArgumentException" ["java/lang/RuntimeException", "java/lang/Exception"], w.before _ s = true := vx_hat (fun w hw => hts w (List.mem_cons_of_mem _ (List.mem_append_right _ hw))) (B := excW) (by decide +kernel) (fun w hw => va_Nw.use (exc_on hw) (hX.1 w hw))
        exact vx_throwS (cls := "java/lang/IllegalArgumentException") (text := "a DEED fails") (names := ["java/lang/RuntimeException", "java/lang/Exception"]) hx hb hfl hown (by decide +kernel) (by decide +kernel) w3 w4 hstr hat (by decide +kernel) hX.U hX.N hS (hl.1.trans hml.symm) dX4_fail_69 dX4_fail_72 dX4_fail_73 dX4_fail_75 dX4_fail_78 (fun x h9 => (htab x h9).elim) (Nat.le_of_ble_eq_true rfl) (Nat.le_of_ble_eq_true rfl) (Nat.le_of_ble_eq_true rfl) (Nat.le_of_ble_eq_true rfl) hlocks (fun t ha h1 h2 => ⟨(), trivial, ⟨⟨by rw [← hF]; decide, by rw [← hF]; rfl⟩, (xc_of hG hP hS h1 h2).1⟩, (xc_of hG hP hS h1 h2).2⟩) hS.2.2 (Nat.le_of_ble_eq_true rfl) (Nat.le_of_ble_eq_true rfl)
      · have hF := ite_f c3 hF
        by_cases c4 : x0 = (3 : Int32)
        · have hF := ite_t c4 hF
          refine lv_tableIn (off := 63) (tgt := 69) hx hb dX4_fail_6 (by rw [c4]; decide) (by rw [c4]; decide) (by rw [c4]; rfl) (by decide) ?_
          obtain ⟨sa, hstr⟩ := hX.g23
          have hat : ∀ w ∈ vx_atS RX4 25 "java/lang/IllegalArgumentException" ["java/lang/RuntimeException", "java/lang/Exception"], w.before _ s = true := vx_hat (fun w hw => hts w (List.mem_cons_of_mem _ (List.mem_append_right _ hw))) (B := excW) (by decide +kernel) (fun w hw => va_Nw.use (exc_on hw) (hX.1 w hw))
          exact vx_throwS (cls := "java/lang/IllegalArgumentException") (text := "a DEED fails") (names := ["java/lang/RuntimeException", "java/lang/Exception"]) hx hb hfl hown (by decide +kernel) (by decide +kernel) w3 w4 hstr hat (by decide +kernel) hX.U hX.N hS (hl.1.trans hml.symm) dX4_fail_69 dX4_fail_72 dX4_fail_73 dX4_fail_75 dX4_fail_78 (fun x h9 => (htab x h9).elim) (Nat.le_of_ble_eq_true rfl) (Nat.le_of_ble_eq_true rfl) (Nat.le_of_ble_eq_true rfl) (Nat.le_of_ble_eq_true rfl) hlocks (fun t ha h1 h2 => ⟨(), trivial, ⟨⟨by rw [← hF]; decide, by rw [← hF]; rfl⟩, (xc_of hG hP hS h1 h2).1⟩, (xc_of hG hP hS h1 h2).2⟩) hS.2.2 (Nat.le_of_ble_eq_true rfl) (Nat.le_of_ble_eq_true rfl)
        · have hF := ite_f c4 hF
          by_cases c5 : x0 = (4 : Int32)
          · have hF := ite_t c5 hF
            refine lv_tableIn (off := 42) (tgt := 48) hx hb dX4_fail_6 (by rw [c5]; decide) (by rw [c5]; decide) (by rw [c5]; rfl) (by decide) ?_
            exact e_vX hx hb hr hP hS hlocks dX4_fail_48 hF
          · have hF := ite_f c5 hF
            by_cases c6 : x0 = (5 : Int32)
            · have hF := ite_t c6 hF
              refine lv_tableIn (off := 43) (tgt := 49) hx hb dX4_fail_6 (by rw [c6]; decide) (by rw [c6]; decide) (by rw [c6]; rfl) (by decide) ?_
              obtain ⟨sa, hstr⟩ := hX.g11
              have hat : ∀ w ∈ vx_atS RX4 13 "java/lang/IllegalStateException" ["java/lang/RuntimeException", "java/lang/Exception"], w.before _ s = true := vx_hat (fun w hw => hts w (List.mem_cons_of_mem _ (List.mem_append_left _ (List.mem_append_left _ (List.mem_append_right _ hw))))) (B := excW) (by decide +kernel) (fun w hw => va_Nw.use (exc_on hw) (hX.1 w hw))
              exact vx_throwS (cls := "java/lang/IllegalStateException") (text := "a GOOD one fails") (names := ["java/lang/RuntimeException", "java/lang/Exception"]) hx hb hfl hown (by decide +kernel) (by decide +kernel) w1 w2 hstr hat (by decide +kernel) hX.U hX.N hS (hl.1.trans hml.symm) dX4_fail_49 dX4_fail_52 dX4_fail_53 dX4_fail_55 dX4_fail_58 (fun x h9 => (htab x h9).elim) (Nat.le_of_ble_eq_true rfl) (Nat.le_of_ble_eq_true rfl) (Nat.le_of_ble_eq_true rfl) (Nat.le_of_ble_eq_true rfl) hlocks (fun t ha h1 h2 => ⟨(), trivial, ⟨⟨by rw [← hF]; decide, by rw [← hF]; rfl⟩, (xc_of hG hP hS h1 h2).1⟩, (xc_of hG hP hS h1 h2).2⟩) hS.2.2 (Nat.le_of_ble_eq_true rfl) (Nat.le_of_ble_eq_true rfl)
            · have hF := ite_f c6 hF
              by_cases c7 : x0 = (6 : Int32)
              · have hF := ite_t c7 hF
                refine lv_tableIn (off := 42) (tgt := 48) hx hb dX4_fail_6 (by rw [c7]; decide) (by rw [c7]; decide) (by rw [c7]; rfl) (by decide) ?_
                exact e_vX hx hb hr hP hS hlocks dX4_fail_48 hF
              · have hF := ite_f c7 hF
                by_cases c8 : x0 = (7 : Int32)
                · have hF := ite_t c8 hF
                  refine lv_tableIn (off := 53) (tgt := 59) hx hb dX4_fail_6 (by rw [c8]; decide) (by rw [c8]; decide) (by rw [c8]; rfl) (by decide) ?_
                  obtain ⟨sa, hstr⟩ := hX.g18
                  have hat : ∀ w ∈ vx_atS RX4 20 "java/lang/UnsupportedOperationException" ["java/lang/RuntimeException", "java/lang/Exception"], w.before _ s = true := vx_hat (fun w hw => hts w (List.mem_cons_of_mem _ (List.mem_append_left _ (List.mem_append_right _ hw)))) (B := excW) (by decide +kernel) (fun w hw => va_Nw.use (exc_on hw) (hX.1 w hw))
                  exact vx_throwS (cls := "java/lang/UnsupportedOperationException") (text := "a HAND fails") (names := ["java/lang/RuntimeException", "java/lang/Exception"]) hx hb hfl hown (by decide +kernel) (by decide +kernel) w5 w6 hstr hat (by decide +kernel) hX.U hX.N hS (hl.1.trans hml.symm) dX4_fail_59 dX4_fail_62 dX4_fail_63 dX4_fail_65 dX4_fail_68 (fun x h9 => (htab x h9).elim) (Nat.le_of_ble_eq_true rfl) (Nat.le_of_ble_eq_true rfl) (Nat.le_of_ble_eq_true rfl) (Nat.le_of_ble_eq_true rfl) hlocks (fun t ha h1 h2 => ⟨(), trivial, ⟨⟨by rw [← hF]; decide, by rw [← hF]; rfl⟩, (xc_of hG hP hS h1 h2).1⟩, (xc_of hG hP hS h1 h2).2⟩) hS.2.2 (Nat.le_of_ble_eq_true rfl) (Nat.le_of_ble_eq_true rfl)
                · have hF := ite_f c8 hF
                  have n0 := lv_neT c2 (by decide : ((1 : Int32)).toInt = 1)
                  have n1 := lv_neT c3 (by decide : ((2 : Int32)).toInt = 2)
                  have n2 := lv_neT c4 (by decide : ((3 : Int32)).toInt = 3)
                  have n3 := lv_neT c5 (by decide : ((4 : Int32)).toInt = 4)
                  have n4 := lv_neT c6 (by decide : ((5 : Int32)).toInt = 5)
                  have n5 := lv_neT c7 (by decide : ((6 : Int32)).toInt = 6)
                  have n6 := lv_neT c8 (by decide : ((7 : Int32)).toInt = 7)
                  refine lv_tableOut (tgt := 69) hx hb dX4_fail_6 (by omega) (by decide) ?_
                  obtain ⟨sa, hstr⟩ := hX.g23
                  have hat : ∀ w ∈ vx_atS RX4 25 "java/lang/IllegalArgumentException" ["java/lang/RuntimeException", "java/lang/Exception"], w.before _ s = true := vx_hat (fun w hw => hts w (List.mem_cons_of_mem _ (List.mem_append_right _ hw))) (B := excW) (by decide +kernel) (fun w hw => va_Nw.use (exc_on hw) (hX.1 w hw))
                  exact vx_throwS (cls := "java/lang/IllegalArgumentException") (text := "a DEED fails") (names := ["java/lang/RuntimeException", "java/lang/Exception"]) hx hb hfl hown (by decide +kernel) (by decide +kernel) w3 w4 hstr hat (by decide +kernel) hX.U hX.N hS (hl.1.trans hml.symm) dX4_fail_69 dX4_fail_72 dX4_fail_73 dX4_fail_75 dX4_fail_78 (fun x h9 => (htab x h9).elim) (Nat.le_of_ble_eq_true rfl) (Nat.le_of_ble_eq_true rfl) (Nat.le_of_ble_eq_true rfl) (Nat.le_of_ble_eq_true rfl) hlocks (fun t ha h1 h2 => ⟨(), trivial, ⟨⟨by rw [← hF]; decide, by rw [← hF]; rfl⟩, (xc_of hG hP hS h1 h2).1⟩, (xc_of hG hP hS h1 h2).2⟩) hS.2.2 (Nat.le_of_ble_eq_true rfl) (Nat.le_of_ble_eq_true rfl)
  · have hF := ite_t c1 hF
    exact e_vX hx hb hr hP hS hlocks dX4_fail_4 hF
def f_X8_element (x1 : Int32) (x2 : Int32) (σ : St) : Option (Nat × Int32) := (ob (f_X8_shelfAt x1 σ) (fun q1 => oc q1 ((some (1, 0))) (fun i3 => (if (f_X5_hasRow i3 σ) = true then (if (f_X8_isBelow x2 (σ i3 1)) = true then (ob (f_X5_cell i3 x2 σ) (fun q6 => some (0, q6))) else (some (2, 0))) else (some (2, 0))))))
set_option maxRecDepth 100000 in
set_option maxHeartbeats 4000000 in
theorem t_X8_element (l : Launch) (hfl : l.stackTraces = false) (G : GT) (hG : Dw G) (x1 : Int32) (x2 : Int32) (σ : St) (o : Nat × Int32) (hF : f_X8_element x1 x2 σ = some o) : vx_Met l yX8_element wsX8_element ({ frames := 6, cells := 1, slots := 6, locals := 90 }) (va_Pc [.ref (gA G 0), .int x1, .int x2] (fun U => Pw G σ U.heap ∧ Kw G U ∧ Xs G U)) (va_Ql (fun r (_ : Unit) => o.1 = 0 ∧ r = o.2.toInt64) (fun _ t => Pw G σ t.heap) (AG G)) (vx_X (fun _ : Unit => True) (fun E _ t => (o.1 ≠ 0 ∧ E = exN o.1) ∧ Pw G σ t.heap) (AG G)) 1 6 (AG G) := by
  refine vx_ofW (cc := cX8_element) (maxL := 4) (ret := (some .long)) (by decide) rfl ?_
  intro p e s m args below meth c s₁ B hml htab hv
  obtain ⟨rfl, hP, hK, hX⟩ := hv
  have hx := B.exec
  have hb := B.bytes
  have hr := B.returns
  have hts := atoms_spec (ws := wsX8_element) B.pre
  have hown : s.vm.findClass RX8 = some m.cls := findClass_of_methodNamed B.named
  have hlocks := B.notSynchronized
  have Z : CallFix p m c cX8_element 4 s _ wsX8_element RX8 := ⟨hx, hb, hml, hown, hts⟩
  have hS : va_S (AG G) s.heap s.heap [] := va_S.rf
  have inX5 : ∀ w ∈ u_ws RX5 TX5 5, w ∈ wsX8_element := by decide +kernel
  have w1 := hts (.classLink RX8 307 "java/lang/IllegalArgumentException") (by decide +kernel)
  have w2 := hts (.initialized "java/lang/IllegalArgumentException") (by decide +kernel)
  have w3 := hts (.initialized RX5) (by decide +kernel)
  have w4n : va_Nw (.methodLinkNest "AlmanacOfTheYearGone" 314 ⟨"AlmanacOfTheYearGone$Shelf", "hasRow", "()Z"⟩ "AlmanacOfTheYearGone") s := hK.2 _ (List.mem_of_getElem? (i := 39) rfl)
  have w4 := va_Nw.use (A := [.ref (gA G 0), .int x1, .int x2].toArray) rfl w4n
  have w5 := hts (.instanceMethod yX5_hasRow) (by decide +kernel)
  have w6 := hts (.selects RX5 yX5_hasRow yX5_hasRow) (by decide +kernel)
  have w7n : va_Nw (.fieldLinkNest "AlmanacOfTheYearGone" 273 "AlmanacOfTheYearGone$Shelf" "length" "I" "AlmanacOfTheYearGone") s := hK.2 _ (List.mem_of_getElem? (i := 4) rfl)
  have w7 := va_Nw.use (A := [.ref (gA G 0), .int x1, .int x2].toArray) rfl w7n
  have w8n : va_Nw (.methodLinkNest "AlmanacOfTheYearGone" 282 ⟨"AlmanacOfTheYearGone$Shelf", "cell", "(I)I"⟩ "AlmanacOfTheYearGone") s := hK.2 _ (List.mem_of_getElem? (i := 112) rfl)
  have w8 := va_Nw.use (A := [.ref (gA G 0), .int x1, .int x2].toArray) rfl w8n
  have w9 := hts (.instanceMethod yX5_cell) (by decide +kernel)
  have w10 := hts (.selects RX5 yX5_cell yX5_cell) (by decide +kernel)
  have w11 := hts (.classLink RX8 318 "java/lang/IllegalStateException") (by decide +kernel)
  have w12 := hts (.initialized "java/lang/IllegalStateException") (by decide +kernel)
  have hl := lv_entry ([.ref (gA G 0), .int x1, .int x2]) (n := 4) (Nat.le_of_ble_eq_true rfl)
  rw [lg_entry_eq]
  generalize (lg_sl ([.ref (gA G 0), .int x1, .int x2]) ++ List.replicate (4 - (lg_sl ([.ref (gA G 0), .int x1, .int x2])).length) Slot.unset).toArray = ls at hl ⊢
  have hl : lv_has ls 4 [(0, .ref (gA G 0)), (1, .int x1), (2, .int x2)] := hl
  unfold f_X8_element at hF
  refine lv_aload_n hx hb dX8_element_0 rfl (lv_at hl 0 rfl) ?_
  refine lv_iload_n hx hb dX8_element_1 rfl (lv_at hl 1 rfl) ?_
  obtain ⟨q1, h2, hF⟩ := ob_some hF
  refine k_Vv (As := [.int x1]) (rest := []) Z hK hP hS (t_X8_shelfAt l G hG x1 σ _ h2) (cwV 1 hts gX8_element_X8_shelfAt rfl rfl rfl (by decide +kernel) ⟨Nat.le_of_ble_eq_true rfl, Nat.le_of_ble_eq_true rfl⟩) (at_4 rfl) rfl rfl hl.1 rfl (Nat.le_of_ble_eq_true rfl) ⟨Nat.zero_le _, Nat.zero_le _⟩ dX8_element_2 (fun H locs hP hS => ?_)
  rcases q1 with _ | i3
  · have hF := oc_n hF
    refine W.eq (g2 := F0 m 5 ls [.null]) rfl ?_
    refine lv_astore_nN (lv' := [(3, .null), (0, .ref (gA G 0)), (1, .int x1), (2, .int x2)]) hx hb dX8_element_5 rfl hl (by decide) rfl (fun ls hl => ?_)
    refine lv_aload_nN hx hb dX8_element_6 rfl (lv_at hl 0 rfl) ?_
    refine lv_ifnonnullN hx hb dX8_element_7 ?_
    obtain ⟨sa, hstr⟩ := hX.g309
    have hat : ∀ w ∈ vx_atS RX8 311 "java/lang/IllegalArgumentException" ["java/lang/RuntimeException", "java/lang/Exception"], w.before _ s = true := vx_hat (fun w hw => hts w (List.mem_cons_of_mem _ (List.mem_append_left _ (List.mem_append_right _ hw)))) (B := excW) (by decide +kernel) (fun w hw => va_Nw.use (exc_on hw) (hX.1 w hw))
    exact vx_throwSW (cls := "java/lang/IllegalArgumentException") (text := "no such SHELF") (names := ["java/lang/RuntimeException", "java/lang/Exception"]) hx hb hfl hown (by decide +kernel) (by decide +kernel) w1 w2 hstr hat (by decide +kernel) hX.U hX.N hS (hl.1.trans hml.symm) dX8_element_10 dX8_element_13 dX8_element_14 dX8_element_17 dX8_element_20 (fun x h9 => (htab x h9).elim) (Nat.le_of_ble_eq_true rfl) (Nat.le_of_ble_eq_true rfl) (Nat.le_of_ble_eq_true rfl) (Nat.le_of_ble_eq_true rfl) hlocks (fun t ha h1 h2 => ⟨(), trivial, ⟨⟨by cases hF; decide, by cases hF; rfl⟩, (xc_of hG hP hS h1 h2).1⟩, (xc_of hG hP hS h1 h2).2⟩) hS.2.2 (Nat.le_of_ble_eq_true rfl) (Nat.le_of_ble_eq_true rfl)
  · have hF := oc_s hF
    have ki3 : kd i3 = 2 := q_X8_shelfAt  h2
    refine W.eq (g2 := F0 m 5 ls [.ref (gA G i3)]) rfl ?_
    refine lv_astore_n (lv' := [(3, .ref (gA G i3)), (0, .ref (gA G 0)), (1, .int x1), (2, .int x2)]) hx hb dX8_element_5 rfl hl (by decide) rfl (fun ls hl => ?_)
    refine lv_aload_n hx hb dX8_element_6 rfl (lv_at hl 0 rfl) ?_
    refine lv_ifnonnull (tgt := 21) hx hb dX8_element_7 (by decide) ?_
    refine lv_aload_n hx hb dX8_element_21 rfl (lv_at hl 0 rfl) ?_
    refine k_VNv (As := []) (rest := []) Z hK hP hS (t_X5_hasRow l G hG i3 ki3 σ) ⟨va_cnB 0 hts gX8_element_X5_hasRow_n314 rfl rfl rfl w4n w3 (by decide +kernel) ⟨Nat.le_of_ble_eq_true rfl, Nat.le_of_ble_eq_true rfl⟩, w5, w6⟩ (at_2 ki3) rfl rfl hl.1 rfl (Nat.le_of_ble_eq_true rfl) ⟨Nat.zero_le _, Nat.zero_le _⟩ dX8_element_22 (fun H locs hP hS => ?_)
    refine lv_if_ne (tgt := 39) hx hb dX8_element_25 (by decide) (fun c4 => ?_) (fun c4 => ?_)
    · have hF := ite_t (b2i_n0 c4) hF
      refine lv_iload_n hx hb dX8_element_39 rfl (lv_at hl 3 rfl) ?_
      refine lv_aload_n hx hb dX8_element_40 rfl (lv_at hl 0 rfl) ?_
      refine va_getN (ci := 2) (C := RX5) (T := TX5) (N := 5) (v := .int (σ i3 1)) hx hb hts inX5 hown hK.1 hP i3 (at_2 ki3) rfl 1 (by decide) w7 (fun _ h9 => h9) rfl dX8_element_41 ?_
      refine k_Sv (As := [.int x2, .int (σ i3 1)]) (rest := []) Z hK hP hS (t_X8_isBelow l G hG x2 (σ i3 1) σ) (va_cwS 2 hts gX8_element_X8_isBelow rfl rfl rfl (by decide +kernel) ⟨Nat.le_of_ble_eq_true rfl, Nat.le_of_ble_eq_true rfl⟩) rfl hl.1 rfl (Nat.le_of_ble_eq_true rfl) ⟨Nat.zero_le _, Nat.zero_le _⟩ dX8_element_44 (fun H locs hP hS => ?_)
      refine lv_if_ne (tgt := 61) hx hb dX8_element_47 (by decide) (fun c5 => ?_) (fun c5 => ?_)
      · have hF := ite_t (b2i_n0 c5) hF
        refine lv_aload_n hx hb dX8_element_61 rfl (lv_at hl 0 rfl) ?_
        refine lv_iload_n hx hb dX8_element_62 rfl (lv_at hl 3 rfl) ?_
        obtain ⟨q6, h7, hF⟩ := ob_some hF
        refine k_VNv (As := [.int x2]) (rest := []) Z hK hP hS (t_X5_cell l G hG i3 x2 ki3 σ _ h7) ⟨va_cnB 1 hts gX8_element_X5_cell_n282 rfl rfl rfl w8n w3 (by decide +kernel) ⟨Nat.le_of_ble_eq_true rfl, Nat.le_of_ble_eq_true rfl⟩, w9, w10⟩ (at_2 ki3) rfl rfl hl.1 rfl (Nat.le_of_ble_eq_true rfl) ⟨Nat.zero_le _, Nat.zero_le _⟩ dX8_element_63 (fun H locs hP hS => ?_)
        refine lv_i2l hx hb dX8_element_66 rfl ?_
        exact e_lX (v := q6) hx hb hr hP hS hlocks dX8_element_67 hF
      · have hF := ite_f (b2i_e0 c5) hF
        obtain ⟨sa, hstr⟩ := hX.g323
        have hat : ∀ w ∈ vx_atS RX8 322 "java/lang/IllegalStateException" ["java/lang/RuntimeException", "java/lang/Exception"], w.before _ s = true := vx_hat (fun w hw => hts w (List.mem_cons_of_mem _ (List.mem_append_right _ hw))) (B := excW) (by decide +kernel) (fun w hw => va_Nw.use (exc_on hw) (hX.1 w hw))
        exact vx_throwSW (cls := "java/lang/IllegalStateException") (text := "no such place") (names := ["java/lang/RuntimeException", "java/lang/Exception"]) hx hb hfl hown (by decide +kernel) (by decide +kernel) w11 w12 hstr hat (by decide +kernel) hX.U hX.N hS (hl.1.trans hml.symm) dX8_element_50 dX8_element_53 dX8_element_54 dX8_element_57 dX8_element_60 (fun x h9 => (htab x h9).elim) (Nat.le_of_ble_eq_true rfl) (Nat.le_of_ble_eq_true rfl) (Nat.le_of_ble_eq_true rfl) (Nat.le_of_ble_eq_true rfl) hlocks (fun t ha h1 h2 => ⟨(), trivial, ⟨⟨by cases hF; decide, by cases hF; rfl⟩, (xc_of hG hP hS h1 h2).1⟩, (xc_of hG hP hS h1 h2).2⟩) hS.2.2 (Nat.le_of_ble_eq_true rfl) (Nat.le_of_ble_eq_true rfl)
    · have hF := ite_f (b2i_e0 c4) hF
      obtain ⟨sa, hstr⟩ := hX.g320
      have hat : ∀ w ∈ vx_atS RX8 322 "java/lang/IllegalStateException" ["java/lang/RuntimeException", "java/lang/Exception"], w.before _ s = true := vx_hat (fun w hw => hts w (List.mem_cons_of_mem _ (List.mem_append_right _ hw))) (B := excW) (by decide +kernel) (fun w hw => va_Nw.use (exc_on hw) (hX.1 w hw))
      exact vx_throwSW (cls := "java/lang/IllegalStateException") (text := "no ROW") (names := ["java/lang/RuntimeException", "java/lang/Exception"]) hx hb hfl hown (by decide +kernel) (by decide +kernel) w11 w12 hstr hat (by decide +kernel) hX.U hX.N hS (hl.1.trans hml.symm) dX8_element_28 dX8_element_31 dX8_element_32 dX8_element_35 dX8_element_38 (fun x h9 => (htab x h9).elim) (Nat.le_of_ble_eq_true rfl) (Nat.le_of_ble_eq_true rfl) (Nat.le_of_ble_eq_true rfl) (Nat.le_of_ble_eq_true rfl) hlocks (fun t ha h1 h2 => ⟨(), trivial, ⟨⟨by cases hF; decide, by cases hF; rfl⟩, (xc_of hG hP hS h1 h2).1⟩, (xc_of hG hP hS h1 h2).2⟩) hS.2.2 (Nat.le_of_ble_eq_true rfl) (Nat.le_of_ble_eq_true rfl)
def f_X8_caught (x0 x1 : Int32) : Int32 := if f_X4_fail x0 x1 = 0 then -15 else if f_X4_fail x0 x1 = 3 then (200 : Int32) + f_X4_expense x0 x1 else if f_X4_fail x0 x1 = 2 then (100 : Int32) + x1 else x1
theorem fail_rng (x0 x1 : Int32) : f_X4_fail x0 x1 = 0 ∨ f_X4_fail x0 x1 = 1 ∨ f_X4_fail x0 x1 = 2 ∨ f_X4_fail x0 x1 = 3 := by
  unfold f_X4_fail
  split
  · exact Or.inl rfl
  repeat' (split <;> first | exact Or.inl rfl | exact Or.inr (Or.inl rfl) | exact Or.inr (Or.inr (Or.inl rfl)) | exact Or.inr (Or.inr (Or.inr rfl)) | skip)
  all_goals first | exact Or.inl rfl | exact Or.inr (Or.inl rfl) | exact Or.inr (Or.inr (Or.inl rfl)) | exact Or.inr (Or.inr (Or.inr rfl))
set_option maxRecDepth 100000 in
set_option maxHeartbeats 4000000 in
theorem t_X8_caught (l : Launch) (hfl : l.stackTraces = false) (G : GT) (hG : Dw G) (x0 : Int32) (x1 : Int32) (σ : St) : Met l yX8_caught wsX8_caught ({ frames := 7, cells := 1, slots := 6, locals := 111 }) (va_Pc [.int x0, .int x1] (fun U => Pw G σ U.heap ∧ Kw G U ∧ Xs G U)) (qR G (some (.int (f_X8_caught x0 x1))) σ) 1 6 (AG G) := by
  refine Met.ofWH (cc := cX8_caught) (maxL := 3) (ret := (some .int)) (hh := [(0, 5, 8, 374), (0, 5, 19, 318), (0, 5, 25, 307)]) (by decide) rfl ?_
  intro p e s m args below meth c s₁ B hml hv
  obtain ⟨rfl, hP, hK, hX⟩ := hv
  have hx := B.exec
  have hb := B.bytes
  have hr := B.returns
  have hts := atoms_spec (ws := wsX8_caught) B.pre
  have hown : s.vm.findClass RX8 = some m.cls := findClass_of_methodNamed B.named
  have hlocks := B.notSynchronized
  have Z : CallFix p m c cX8_caught 3 s _ wsX8_caught RX8 := ⟨hx, hb, hml, hown, hts⟩
  have hS : va_S (AG G) s.heap s.heap [] := va_S.rf
  have htab : c.exceptionTable.toList = [⟨0, 5, 8, 374⟩, ⟨0, 5, 19, 318⟩, ⟨0, 5, 25, 307⟩] := vx_table (x := yX8_caught) B (hts _ List.mem_cons_self)
  have w1 := hts (.classLink RX8 374 "java/lang/UnsupportedOperationException") (by decide +kernel)
  have w2 := hts (.classLink RX8 318 "java/lang/IllegalStateException") (by decide +kernel)
  have w3 := hts (.classLink RX8 307 "java/lang/IllegalArgumentException") (by decide +kernel)
  have w4 := hts (.initialized RX4) (by decide +kernel)
  have w5n : va_Nw (.methodLinkNest "AlmanacOfTheYearGone" 371 ⟨"AlmanacOfTheYearGone$Law", "fail", "(II)V"⟩ "AlmanacOfTheYearGone") s := hK.2 _ (List.mem_of_getElem? (i := 122) rfl)
  have w5 := hts (.static yX4_fail) (by decide +kernel)
  have w6n : va_Nw (.methodLinkNest "AlmanacOfTheYearGone" 341 ⟨"AlmanacOfTheYearGone$Law", "expense", "(II)I"⟩ "AlmanacOfTheYearGone") s := hK.2 _ (List.mem_of_getElem? (i := 121) rfl)
  have w6 := hts (.static yX4_expense) (by decide +kernel)
  have hl := lv_entry ([.int x0, .int x1]) (n := 3) (Nat.le_of_ble_eq_true rfl)
  rw [lg_entry_eq]
  generalize (lg_sl ([.int x0, .int x1]) ++ List.replicate (3 - (lg_sl ([.int x0, .int x1])).length) Slot.unset).toArray = ls at hl ⊢
  have hl : lv_has ls 3 [(0, .int x0), (1, .int x1)] := hl
  refine lv_iload_n hx hb dX8_caught_0 rfl (lv_at hl 0 rfl) ?_
  refine lv_iload_n hx hb dX8_caught_1 rfl (lv_at hl 1 rfl) ?_
  refine vx_callv (vx_runSN (As := [.int x0, .int x1]) (rest := []) Z (t_X4_fail l hfl G hG x0 x1 σ _ rfl) ⟨va_cnB 2 hts gX8_caught_X4_fail_n371 rfl rfl rfl w5n w4 (by decide +kernel) ⟨Nat.le_of_ble_eq_true rfl, Nat.le_of_ble_eq_true rfl⟩, w5, trivial⟩ ⟨x_blind, fun U hU hW => ⟨rfl, by rw [hU]; exact hP, hK.warm hW, hX.go hS hU hW⟩⟩ rfl rfl hl.1 rfl (lv_room (Nat.le_of_ble_eq_true rfl)) dX8_caught_2 ⟨Nat.le_of_ble_eq_true rfl, Nat.le_of_ble_eq_true rfl⟩) hS (fun q _ h => h) (fun q h => h) (fun q _ h => h) (fun E ce q9 u t H1 locs1 ht hvm hpx hBX hz hk hS hcell hcv hcl => ?_) (fun u t H1 locs1 ht hvm hpost hB hz hk hS => ?_)
  · obtain ⟨⟨hne, hE⟩, hP⟩ := hBX
    rw [ht] at hP
    rcases fail_rng x0 x1 with h0 | h1 | h2 | h3
    · exact absurd h0 hne
    · have hE : E = "java/lang/IllegalArgumentException" := by rw [hE, h1]; rfl
      subst hE
      refine vx_catch hown [⟨0, 5, 8, 374⟩, ⟨0, 5, 19, 318⟩] ⟨0, 5, 25, 307⟩ [] htab (fun z hz => ?_) (by decide +kernel) (by decide) w3 (va_Nw.use rfl (hX.1 _ exc_c1)) hcell hcv hcl ?_
      · rcases List.mem_cons.mp hz with rfl | hz
        · exact Or.inr ⟨by decide, _, w1, hX.n2⟩
        · rcases List.mem_cons.mp hz with rfl | hz
          · exact Or.inr ⟨by decide, _, w2, hX.n3⟩
          · cases hz
      · show W p l e _ s m _ below meth c H1 locs1 _ _ _ (F0 m 25 ls [.ref q9])
        refine W.widen (k := 1) (n := 6) (Nat.le_of_ble_eq_true rfl) (Nat.le_of_ble_eq_true rfl) ?_
        refine lv_astore_n (lv' := [(2, .ref q9), (0, .int x0), (1, .int x1)]) hx hb dX8_caught_25 rfl hl (by decide) rfl (fun ls hl => ?_)
        refine lv_iload_n hx hb dX8_caught_26 rfl (lv_at hl 2 rfl) ?_
        exact e_iT hx hb hr hP hS hlocks dX8_caught_27 (by unfold f_X8_caught; rw [h1]; rfl)
    · have hE : E = "java/lang/IllegalStateException" := by rw [hE, h2]; rfl
      subst hE
      refine vx_catch hown [⟨0, 5, 8, 374⟩] ⟨0, 5, 19, 318⟩ [⟨0, 5, 25, 307⟩] htab (fun z hz => ?_) (by decide +kernel) (by decide) w2 (va_Nw.use rfl (hX.1 _ exc_c2)) hcell hcv hcl ?_
      · rcases List.mem_cons.mp hz with rfl | hz
        · exact Or.inr ⟨by decide, _, w1, hX.n1⟩
        · cases hz
      · show W p l e _ s m _ below meth c H1 locs1 _ _ _ (F0 m 19 ls [.ref q9])
        refine W.widen (k := 1) (n := 6) (Nat.le_of_ble_eq_true rfl) (Nat.le_of_ble_eq_true rfl) ?_
        refine lv_astore_n (lv' := [(2, .ref q9), (0, .int x0), (1, .int x1)]) hx hb dX8_caught_19 rfl hl (by decide) rfl (fun ls hl => ?_)
        refine lv_bipush (v := 100) hx hb dX8_caught_20 (by decide) ?_
        refine lv_iload_n hx hb dX8_caught_22 rfl (lv_at hl 2 rfl) ?_
        refine lv_iadd hx hb dX8_caught_23 ?_
        exact e_iT hx hb hr hP hS hlocks dX8_caught_24 (by unfold f_X8_caught; rw [h2]; rfl)
    · have hE : E = "java/lang/UnsupportedOperationException" := by rw [hE, h3]; rfl
      subst hE
      refine vx_catch hown [] ⟨0, 5, 8, 374⟩ [⟨0, 5, 19, 318⟩, ⟨0, 5, 25, 307⟩] htab (fun z hz => by cases hz) (by decide +kernel) (by decide) w1 (va_Nw.use rfl (hX.1 _ exc_c3)) hcell hcv hcl ?_
      show W p l e _ s m _ below meth c H1 locs1 _ _ _ (F0 m 8 ls [.ref q9])
      refine W.widen (k := 1) (n := 6) (Nat.le_of_ble_eq_true rfl) (Nat.le_of_ble_eq_true rfl) ?_
      refine lv_astore_n (lv' := [(2, .ref q9), (0, .int x0), (1, .int x1)]) hx hb dX8_caught_8 rfl hl (by decide) rfl (fun ls hl => ?_)
      refine lv_sipush (v := 200) hx hb dX8_caught_9 (by decide) ?_
      refine lv_iload_n hx hb dX8_caught_12 rfl (lv_at hl 1 rfl) ?_
      refine lv_iload_n hx hb dX8_caught_13 rfl (lv_at hl 2 rfl) ?_
      refine k_SNv (As := [.int x0, .int x1]) (rest := [.int 200]) Z hK hP hS (t_X4_expense l G hG x0 x1 σ) ⟨va_cnB 2 hts gX8_caught_X4_expense_n341 rfl rfl rfl w6n w4 (by decide +kernel) ⟨Nat.le_of_ble_eq_true rfl, Nat.le_of_ble_eq_true rfl⟩, w6, trivial⟩ rfl hl.1 rfl (Nat.le_of_ble_eq_true rfl) ⟨Nat.le_of_ble_eq_true rfl, Nat.le_of_ble_eq_true rfl⟩ dX8_caught_14 (fun H locs hP hS => ?_)
      refine lv_iadd hx hb dX8_caught_17 ?_
      exact e_iT hx hb hr hP hS hlocks dX8_caught_18 (by unfold f_X8_caught; rw [h3]; rfl)
  · have hB : Pw G σ t.heap := hB
    rw [ht] at hB
    refine W.eq (g2 := F0 m 5 ls []) rfl ?_
    refine W.widen (k := 1) (n := 6) (Nat.le_of_ble_eq_true rfl) (Nat.le_of_ble_eq_true rfl) ?_
    refine lv_goto (tgt := 28) hx hb dX8_caught_5 (by decide) ?_
    refine lv_bipush (v := -15) hx hb dX8_caught_28 (by decide) ?_
    exact e_iT hx hb hr hB hS hlocks dX8_caught_30 (by unfold f_X8_caught; rw [if_pos hpost])
def f_X8_toss_19 (x1 : Int32) (σ : St) (v3 : Int32) : Option Int32 := (some v3)
theorem f_X8_toss_19_e {x1 : Int32} {σ : St} {v3 : Int32} : f_X8_toss_19 x1 σ v3 = (some v3) := rfl
def f_X8_toss (x1 : Int32) (σ : St) : Option Int32 := (ob (f_X8_shelfAt x1 σ) (fun q1 => oc q1 ((f_X8_toss_19 x1 σ (f_X8_kindRefusal none σ))) (fun i3 => (if (f_X8_kindRefusal (some i3) σ) = 0 then (some (f_X8_caught (σ i3 3) (σ i3 4))) else f_X8_toss_19 x1 σ (f_X8_kindRefusal (some i3) σ)))))
set_option maxRecDepth 100000 in
set_option maxHeartbeats 4000000 in
theorem t_X8_toss (l : Launch) (hfl : l.stackTraces = false) (G : GT) (hG : Dw G) (x1 : Int32) (σ : St) (o : Int32) (hF : f_X8_toss x1 σ = some o) : Met l yX8_toss wsX8_toss ({ frames := 8, cells := 1, slots := 6, locals := 133 }) (va_Pc [.ref (gA G 0), .int x1] (fun U => Pw G σ U.heap ∧ Kw G U ∧ Xs G U)) (qR G (some (.int o)) σ) 1 6 (AG G) := by
  refine Met.ofW (cc := cX8_toss) (maxL := 4) (ret := (some .int)) (by decide) rfl ?_
  intro p e s m args below meth c s₁ B hml hv
  obtain ⟨rfl, hP, hK, hX⟩ := hv
  have hx := B.exec
  have hb := B.bytes
  have hr := B.returns
  have hts := atoms_spec (ws := wsX8_toss) B.pre
  have hown : s.vm.findClass RX8 = some m.cls := findClass_of_methodNamed B.named
  have hlocks := B.notSynchronized
  have Z : CallFix p m c cX8_toss 4 s _ wsX8_toss RX8 := ⟨hx, hb, hml, hown, hts⟩
  have hS : va_S (AG G) s.heap s.heap [] := va_S.rf
  have inX5 : ∀ w ∈ u_ws RX5 TX5 5, w ∈ wsX8_toss := by decide +kernel
  have w1n : va_Nw (.fieldLinkNest "AlmanacOfTheYearGone" 121 "AlmanacOfTheYearGone$Shelf" "kind" "I" "AlmanacOfTheYearGone") s := hK.2 _ (List.mem_of_getElem? (i := 6) rfl)
  have w1 := va_Nw.use (A := [.ref (gA G 0), .int x1].toArray) rfl w1n
  have w2n : va_Nw (.fieldLinkNest "AlmanacOfTheYearGone" 122 "AlmanacOfTheYearGone$Shelf" "figure" "I" "AlmanacOfTheYearGone") s := hK.2 _ (List.mem_of_getElem? (i := 7) rfl)
  have w2 := va_Nw.use (A := [.ref (gA G 0), .int x1].toArray) rfl w2n
  have w3 := hts (.initialized RX8) (by decide +kernel)
  have hl := lv_entry ([.ref (gA G 0), .int x1]) (n := 4) (Nat.le_of_ble_eq_true rfl)
  rw [lg_entry_eq]
  generalize (lg_sl ([.ref (gA G 0), .int x1]) ++ List.replicate (4 - (lg_sl ([.ref (gA G 0), .int x1])).length) Slot.unset).toArray = ls at hl ⊢
  have hl : lv_has ls 4 [(0, .ref (gA G 0)), (1, .int x1)] := hl
  unfold f_X8_toss at hF
  refine lv_aload_n hx hb dX8_toss_0 rfl (lv_at hl 0 rfl) ?_
  refine lv_iload_n hx hb dX8_toss_1 rfl (lv_at hl 1 rfl) ?_
  obtain ⟨q1, h2, hF⟩ := ob_some hF
  refine k_Vv (As := [.int x1]) (rest := []) Z hK hP hS (t_X8_shelfAt l G hG x1 σ _ h2) (cwV 1 hts gX8_toss_X8_shelfAt rfl rfl rfl (by decide +kernel) ⟨Nat.le_of_ble_eq_true rfl, Nat.le_of_ble_eq_true rfl⟩) (at_4 rfl) rfl rfl hl.1 rfl (Nat.le_of_ble_eq_true rfl) ⟨Nat.zero_le _, Nat.zero_le _⟩ dX8_toss_2 (fun H locs hP hS => ?_)
  rcases q1 with _ | i3
  · have hF := oc_n hF
    refine W.eq (g2 := F0 m 5 ls [.null]) rfl ?_
    refine lv_astore_nN (lv' := [(2, .null), (0, .ref (gA G 0)), (1, .int x1)]) hx hb dX8_toss_5 rfl hl (by decide) rfl (fun ls hl => ?_)
    refine lv_aload_nN hx hb dX8_toss_6 rfl (lv_at hl 0 rfl) ?_
    refine k_Sv (As := [.null]) (rest := []) Z hK hP hS (t_X8_kindRefusal l G hG none (fun _ h9 => by cases h9) σ) (va_cwS 1 hts gX8_toss_X8_kindRefusal rfl rfl rfl (by decide +kernel) ⟨Nat.le_of_ble_eq_true rfl, Nat.le_of_ble_eq_true rfl⟩) rfl hl.1 rfl (Nat.le_of_ble_eq_true rfl) ⟨Nat.zero_le _, Nat.zero_le _⟩ dX8_toss_7 (fun H locs hP hS => ?_)
    refine lv_istore_n (lv' := [(3, .int (f_X8_kindRefusal none σ)), (2, .null), (0, .ref (gA G 0)), (1, .int x1)]) hx hb dX8_toss_10 rfl hl (by decide) rfl (fun ls hl => ?_)
    refine lv_aload_nN hx hb dX8_toss_11 rfl (lv_at hl 1 rfl) ?_
    have J19 : ∀ (v3 : Int32) (H : Heap) (locs : List Loc) (hP : Pw G σ H) (hS : va_S (AG G) s.heap H locs) (ls : Array Slot) (hl : lv_has ls 4 [(0, .ref (gA G 0)), (1, .int x1), (3, .int v3)]) (hF : f_X8_toss_19 x1 σ v3 = some o), W p l e (headSpec wsX8_toss ({ frames := 8, cells := 1, slots := 6, locals := 133 })).room s m ([.ref (gA G 0), .int x1] : List Value).toArray below meth c H locs 0 0 (MQ below (qR G (some (.int o)) σ) ([.ref (gA G 0), .int x1] : List Value).toArray s 1 6 (AG G)) (F0 m 19 ls []) := by
      intro v3 H locs hP hS ls hl hF
      rw [f_X8_toss_19_e] at hF
      refine lv_iload_n hx hb dX8_toss_19 rfl (lv_at hl 2 rfl) ?_
      refine lv_goto (tgt := 34) hx hb dX8_toss_20 (by decide) ?_
      refine W.widen (k := 1) (n := 6) (Nat.le_of_ble_eq_true rfl) (Nat.le_of_ble_eq_true rfl) ?_
      exact e_iP hx hb hr hP hS hlocks dX8_toss_34 hF
    refine lv_ifnullN (tgt := 19) hx hb dX8_toss_12 (by decide) ?_
    exact J19 (f_X8_kindRefusal none σ) _ _ hP hS ls (lv_sub hl [2, 3, 0] rfl) hF
  · have hF := oc_s hF
    have ki3 : kd i3 = 2 := q_X8_shelfAt  h2
    refine W.eq (g2 := F0 m 5 ls [.ref (gA G i3)]) rfl ?_
    refine lv_astore_n (lv' := [(2, .ref (gA G i3)), (0, .ref (gA G 0)), (1, .int x1)]) hx hb dX8_toss_5 rfl hl (by decide) rfl (fun ls hl => ?_)
    refine lv_aload_n hx hb dX8_toss_6 rfl (lv_at hl 0 rfl) ?_
    refine k_Sv (As := [.ref (gA G i3)]) (rest := []) Z hK hP hS (t_X8_kindRefusal l G hG (some i3) (fun _ h9 => by cases h9; exact ki3) σ) (va_cwS 1 hts gX8_toss_X8_kindRefusal rfl rfl rfl (by decide +kernel) ⟨Nat.le_of_ble_eq_true rfl, Nat.le_of_ble_eq_true rfl⟩) rfl hl.1 rfl (Nat.le_of_ble_eq_true rfl) ⟨Nat.zero_le _, Nat.zero_le _⟩ dX8_toss_7 (fun H locs hP hS => ?_)
    refine lv_istore_n (lv' := [(3, .int (f_X8_kindRefusal (some i3) σ)), (2, .ref (gA G i3)), (0, .ref (gA G 0)), (1, .int x1)]) hx hb dX8_toss_10 rfl hl (by decide) rfl (fun ls hl => ?_)
    refine lv_aload_n hx hb dX8_toss_11 rfl (lv_at hl 1 rfl) ?_
    have J19 : ∀ (v3 : Int32) (H : Heap) (locs : List Loc) (hP : Pw G σ H) (hS : va_S (AG G) s.heap H locs) (ls : Array Slot) (hl : lv_has ls 4 [(0, .ref (gA G 0)), (1, .int x1), (3, .int v3)]) (hF : f_X8_toss_19 x1 σ v3 = some o), W p l e (headSpec wsX8_toss ({ frames := 8, cells := 1, slots := 6, locals := 133 })).room s m ([.ref (gA G 0), .int x1] : List Value).toArray below meth c H locs 0 0 (MQ below (qR G (some (.int o)) σ) ([.ref (gA G 0), .int x1] : List Value).toArray s 1 6 (AG G)) (F0 m 19 ls []) := by
      intro v3 H locs hP hS ls hl hF
      rw [f_X8_toss_19_e] at hF
      refine lv_iload_n hx hb dX8_toss_19 rfl (lv_at hl 2 rfl) ?_
      refine lv_goto (tgt := 34) hx hb dX8_toss_20 (by decide) ?_
      refine W.widen (k := 1) (n := 6) (Nat.le_of_ble_eq_true rfl) (Nat.le_of_ble_eq_true rfl) ?_
      exact e_iP hx hb hr hP hS hlocks dX8_toss_34 hF
    refine lv_ifnull hx hb dX8_toss_12 ?_
    refine lv_iload_n hx hb dX8_toss_15 rfl (lv_at hl 0 rfl) ?_
    refine lv_if_eq (tgt := 23) hx hb dX8_toss_16 (by decide) (fun c4 => ?_) (fun c4 => ?_)
    · have hF := ite_t c4 hF
      refine lv_aload_n hx hb dX8_toss_23 rfl (lv_at hl 1 rfl) ?_
      refine va_getN (ci := 2) (C := RX5) (T := TX5) (N := 5) (v := .int (σ i3 3)) hx hb hts inX5 hown hK.1 hP i3 (at_2 ki3) rfl 3 (by decide) w1 (fun _ h9 => h9) rfl dX8_toss_24 ?_
      refine lv_aload_n hx hb dX8_toss_27 rfl (lv_at hl 1 rfl) ?_
      refine va_getN (ci := 2) (C := RX5) (T := TX5) (N := 5) (v := .int (σ i3 4)) hx hb hts inX5 hown hK.1 hP i3 (at_2 ki3) rfl 4 (by decide) w2 (fun _ h9 => h9) rfl dX8_toss_28 ?_
      refine k_goM (vx_runSW (As := [.int (σ i3 3), .int (σ i3 4)]) (rest := []) Z (t_X8_caught l hfl G hG (σ i3 3) (σ i3 4) σ) (vx_cwSW 2 hts gX8_toss_X8_caught rfl rfl rfl (by decide +kernel) ⟨Nat.le_of_ble_eq_true rfl, Nat.le_of_ble_eq_true rfl⟩) ⟨x_blind, fun U hU hW => ⟨rfl, by rw [hU]; exact hP, hK.warm hW, hX.go hS hU hW⟩⟩ rfl rfl hl.1 rfl (lv_room (Nat.le_of_ble_eq_true rfl)) dX8_toss_31 ⟨Nat.le_of_ble_eq_true rfl, Nat.le_of_ble_eq_true rfl⟩) hS (fun H locs hP hS => ?_)
      refine W.widen (k := 1) (n := 6) (Nat.le_of_ble_eq_true rfl) (Nat.le_of_ble_eq_true rfl) ?_
      exact e_iP hx hb hr hP hS hlocks dX8_toss_34 hF
    · have hF := ite_f c4 hF
      exact J19 (f_X8_kindRefusal (some i3) σ) _ _ hP hS ls (lv_sub hl [2, 3, 0] rfl) hF
