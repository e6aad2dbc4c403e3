def f_X8_mayBe_83 (x1 : Int32) (x2 : Int32) (σ : St) (rec52 : Nat → Int32 → Int32 → Int32 → Int32 → Option Int32) (j3 : Nat) (v4 : Int32) (v5 : Int32) (v6 : Int32) (v7 : Int32) : Option Int32 := (rec52 j3 v4 v5 v6 (v7 + (-1 : Int32)))
theorem f_X8_mayBe_83_e {x1 : Int32} {x2 : Int32} {σ : St} {rec52 : Nat → Int32 → Int32 → Int32 → Int32 → Option Int32} {j3 : Nat} {v4 : Int32} {v5 : Int32} {v6 : Int32} {v7 : Int32} : f_X8_mayBe_83 x1 x2 σ rec52 j3 v4 v5 v6 v7 = (rec52 j3 v4 v5 v6 (v7 + (-1 : Int32))) := rfl
def f_X8_mayBe_52 (x1 : Int32) (x2 : Int32) (σ : St) : Nat → (Nat → Int32 → Int32 → Int32 → Int32 → Option Int32)
  | 0 => fun _ _ _ _ _ => none
  | fl + 1 => fun j3 v4 v5 v6 v7 => (if v7 < 0 then (if x2 = 0 then (some v5) else (some v6)) else (if (f_X1_keepersAfter j3 ((σ 21 3) - v7) σ) = v4 then (f_X8_mayBe_83 x1 x2 σ (f_X8_mayBe_52 x1 x2 σ fl) j3 v4 (v5 + (1 : Int32)) v7 v7) else f_X8_mayBe_83 x1 x2 σ (f_X8_mayBe_52 x1 x2 σ fl) j3 v4 v5 v6 v7))
theorem f_X8_mayBe_52_s {x1 : Int32} {x2 : Int32} {σ : St} (fl : Nat) {j3 : Nat} {v4 : Int32} {v5 : Int32} {v6 : Int32} {v7 : Int32} : f_X8_mayBe_52 x1 x2 σ (fl + 1) j3 v4 v5 v6 v7 = (if v7 < 0 then (if x2 = 0 then (some v5) else (some v6)) else (if (f_X1_keepersAfter j3 ((σ 21 3) - v7) σ) = v4 then (f_X8_mayBe_83 x1 x2 σ (f_X8_mayBe_52 x1 x2 σ fl) j3 v4 (v5 + (1 : Int32)) v7 v7) else f_X8_mayBe_83 x1 x2 σ (f_X8_mayBe_52 x1 x2 σ fl) j3 v4 v5 v6 v7)) := rfl
def f_X8_mayBe (x1 : Int32) (x2 : Int32) (σ : St) : Option Int32 := (ob (f_X7_deedAt 21 x1 σ) (fun q1 => oc q1 ((some (-1 : Int32))) (fun i3 => (if (f_X8_isBelow x2 (2 : Int32)) = true then (f_X8_mayBe_52 x1 x2 σ fu i3 (f_X1_keepers i3 (σ 21 3) σ) (0 : Int32) (-4 : Int32) (f_X7_lastDay 21 σ)) else (some (-1 : Int32))))))
set_option maxRecDepth 100000 in
set_option maxHeartbeats 4000000 in
theorem t_X8_mayBe (l : Launch) (G : GT) (hG : Dw G) (x1 : Int32) (x2 : Int32) (σ : St) (o : Int32) (hF : f_X8_mayBe x1 x2 σ = some o) : Ct l G yX8_mayBe wsX8_mayBe 2 43 [.ref (gA G 0), .int x1, .int x2] σ (some (.int o)) σ := by
  refine Met.ofW (cc := cX8_mayBe) (maxL := 8) (ret := (some .int)) (by decide) rfl ?_
  intro p e s m args below meth c s₁ B hml hv
  obtain ⟨rfl, hP, hK⟩ := hv
  have hx := B.exec
  have hb := B.bytes
  have hr := B.returns
  have hts := atoms_spec (ws := wsX8_mayBe) B.pre
  have hown : s.vm.findClass RX8 = some m.cls := findClass_of_methodNamed B.named
  have hlocks := B.notSynchronized
  have Z : CallFix p m c cX8_mayBe 8 s _ wsX8_mayBe RX8 := ⟨hx, hb, hml, hown, hts⟩
  have hS : va_S (AG G) s.heap s.heap [] := va_S.rf
  have inX8 : ∀ w ∈ u_ws RX8 TX8 7, w ∈ wsX8_mayBe := by decide +kernel
  have inX7 : ∀ w ∈ u_ws RX7 TX7 4, w ∈ wsX8_mayBe := by decide +kernel
  have w1 := hts (.fieldLink RX8 27 "AlmanacOfTheYearGone" "now" "LAlmanacOfTheYearGone$Year;") (by decide +kernel)
  have w2 := hts (.initialized RX7) (by decide +kernel)
  have w3n : va_Nw (.methodLinkNest "AlmanacOfTheYearGone" 78 ⟨"AlmanacOfTheYearGone$Year", "deedAt", "(I)LAlmanacOfTheYearGone$Deed;"⟩ "AlmanacOfTheYearGone") s := hK.2 _ (List.mem_of_getElem? (i := 52) rfl)
  have w3 := va_Nw.use (A := [.ref (gA G 0), .int x1, .int x2].toArray) rfl w3n
  have w4 := hts (.instanceMethod yX7_deedAt) (by decide +kernel)
  have w5 := hts (.selects RX7 yX7_deedAt yX7_deedAt) (by decide +kernel)
  have w6n : va_Nw (.fieldLinkNest "AlmanacOfTheYearGone" 134 "AlmanacOfTheYearGone$Year" "day" "I" "AlmanacOfTheYearGone") s := hK.2 _ (List.mem_of_getElem? (i := 27) rfl)
  have w6 := va_Nw.use (A := [.ref (gA G 0), .int x1, .int x2].toArray) rfl w6n
  have w7 := hts (.initialized RX1) (by decide +kernel)
  have w8n : va_Nw (.methodLinkNest "AlmanacOfTheYearGone" 202 ⟨"AlmanacOfTheYearGone$Deed", "keepers", "(I)I"⟩ "AlmanacOfTheYearGone") s := hK.2 _ (List.mem_of_getElem? (i := 89) rfl)
  have w8 := va_Nw.use (A := [.ref (gA G 0), .int x1, .int x2].toArray) rfl w8n
  have w9 := hts (.instanceMethod yX1_keepers) (by decide +kernel)
  have w10 := hts (.selects RX1 yX1_keepers yX1_keepers) (by decide +kernel)
  have w11n : va_Nw (.methodLinkNest "AlmanacOfTheYearGone" 205 ⟨"AlmanacOfTheYearGone$Year", "lastDay", "()I"⟩ "AlmanacOfTheYearGone") s := hK.2 _ (List.mem_of_getElem? (i := 90) rfl)
  have w11 := va_Nw.use (A := [.ref (gA G 0), .int x1, .int x2].toArray) rfl w11n
  have w12 := hts (.instanceMethod yX7_lastDay) (by decide +kernel)
  have w13 := hts (.selects RX7 yX7_lastDay yX7_lastDay) (by decide +kernel)
  have w14n : va_Nw (.methodLinkNest "AlmanacOfTheYearGone" 208 ⟨"AlmanacOfTheYearGone$Deed", "keepersAfter", "(I)I"⟩ "AlmanacOfTheYearGone") s := hK.2 _ (List.mem_of_getElem? (i := 91) rfl)
  have w14 := va_Nw.use (A := [.ref (gA G 0), .int x1, .int x2].toArray) rfl w14n
  have w15 := hts (.instanceMethod yX1_keepersAfter) (by decide +kernel)
  have w16 := hts (.selects RX1 yX1_keepersAfter yX1_keepersAfter) (by decide +kernel)
  have hl := lv_entry ([.ref (gA G 0), .int x1, .int x2]) (n := 8) (Nat.le_of_ble_eq_true rfl)
  rw [lg_entry_eq]
  generalize (lg_sl ([.ref (gA G 0), .int x1, .int x2]) ++ List.replicate (8 - (lg_sl ([.ref (gA G 0), .int x1, .int x2])).length) Slot.unset).toArray = ls at hl ⊢
  have hl : lv_has ls 8 [(0, .ref (gA G 0)), (1, .int x1), (2, .int x2)] := hl
  unfold f_X8_mayBe at hF
  refine lv_aload_n hx hb dX8_mayBe_0 rfl (lv_at hl 0 rfl) ?_
  refine va_get (ci := 4) (C := RX8) (T := TX8) (N := 7) (v := .ref (gA G 21)) hx hb hts inX8 hown hK.1 hP 0 (at_4 rfl) rfl 2 (by decide) w1 (fun _ h9 => h9) rfl dX8_mayBe_1 ?_
  refine lv_iload_n hx hb dX8_mayBe_4 rfl (lv_at hl 1 rfl) ?_
  obtain ⟨q1, h2, hF⟩ := ob_some hF
  refine k_VNv (As := [.int x1]) (rest := []) Z hK hP hS (t_X7_deedAt l G hG 21 x1 (rfl : kd 21 = 3) σ _ h2) ⟨va_cnB 1 hts gX8_mayBe_X7_deedAt_n78 rfl rfl rfl w3n w2 (by decide +kernel) ⟨Nat.le_of_ble_eq_true rfl, Nat.le_of_ble_eq_true rfl⟩, w4, w5⟩ (at_3 (rfl : kd 21 = 3)) rfl rfl hl.1 rfl (Nat.le_of_ble_eq_true rfl) ⟨Nat.zero_le _, Nat.zero_le _⟩ dX8_mayBe_5 (fun H locs hP hS => ?_)
  rcases q1 with _ | i3
  · have hF := oc_n hF
    refine W.eq (g2 := F0 m 8 ls [.null]) rfl ?_
    refine lv_astore_nN (lv' := [(3, .null), (0, .ref (gA G 0)), (1, .int x1), (2, .int x2)]) hx hb dX8_mayBe_8 rfl hl (by decide) rfl (fun ls hl => ?_)
    refine lv_aload_nN hx hb dX8_mayBe_9 rfl (lv_at hl 0 rfl) ?_
    refine lv_ifnullN (tgt := 21) hx hb dX8_mayBe_10 (by decide) ?_
    refine lv_iconst (v := -1) hx hb dX8_mayBe_21 (by decide) ?_
    exact e_iP hx hb hr hP hS hlocks dX8_mayBe_22 hF
  · have hF := oc_s hF
    have ki3 : kd i3 = 1 := q_X7_deedAt (rfl : kd 21 = 3) h2
    refine W.eq (g2 := F0 m 8 ls [.ref (gA G i3)]) rfl ?_
    refine lv_astore_n (lv' := [(3, .ref (gA G i3)), (0, .ref (gA G 0)), (1, .int x1), (2, .int x2)]) hx hb dX8_mayBe_8 rfl hl (by decide) rfl (fun ls hl => ?_)
    refine lv_aload_n hx hb dX8_mayBe_9 rfl (lv_at hl 0 rfl) ?_
    refine lv_ifnull hx hb dX8_mayBe_10 ?_
    refine lv_iload_n hx hb dX8_mayBe_13 rfl (lv_at hl 3 rfl) ?_
    refine lv_iconst (v := 2) hx hb dX8_mayBe_14 (by decide) ?_
    refine k_Sv (As := [.int x2, .int (2 : Int32)]) (rest := []) Z hK hP hS (t_X8_isBelow l G hG x2 (2 : Int32) σ) (va_cwS 2 hts gX8_mayBe_X8_isBelow rfl rfl rfl (by decide +kernel) ⟨Nat.le_of_ble_eq_true rfl, Nat.le_of_ble_eq_true rfl⟩) rfl hl.1 rfl (Nat.le_of_ble_eq_true rfl) ⟨Nat.zero_le _, Nat.zero_le _⟩ dX8_mayBe_15 (fun H locs hP hS => ?_)
    refine lv_if_ne (tgt := 23) hx hb dX8_mayBe_18 (by decide) (fun c4 => ?_) (fun c4 => ?_)
    · have hF := ite_t (b2i_n0 c4) hF
      refine lv_aload_n hx hb dX8_mayBe_23 rfl (lv_at hl 0 rfl) ?_
      refine lv_aload_n hx hb dX8_mayBe_24 rfl (lv_at hl 1 rfl) ?_
      refine va_get (ci := 4) (C := RX8) (T := TX8) (N := 7) (v := .ref (gA G 21)) hx hb hts inX8 hown hK.1 hP 0 (at_4 rfl) rfl 2 (by decide) w1 (fun _ h9 => h9) rfl dX8_mayBe_25 ?_
      refine va_getN (ci := 3) (C := RX7) (T := TX7) (N := 4) (v := .int (σ 21 3)) hx hb hts inX7 hown hK.1 hP 21 (at_3 (rfl : kd 21 = 3)) rfl 3 (by decide) w6 (fun _ h9 => h9) rfl dX8_mayBe_28 ?_
      refine k_VNv (As := [.int (σ 21 3)]) (rest := []) Z hK hP hS (t_X1_keepers l G hG i3 (σ 21 3) ki3 σ) ⟨va_cnB 1 hts gX8_mayBe_X1_keepers_n202 rfl rfl rfl w8n w7 (by decide +kernel) ⟨Nat.le_of_ble_eq_true rfl, Nat.le_of_ble_eq_true rfl⟩, w9, w10⟩ (at_1 ki3) rfl rfl hl.1 rfl (Nat.le_of_ble_eq_true rfl) ⟨Nat.zero_le _, Nat.zero_le _⟩ dX8_mayBe_31 (fun H locs hP hS => ?_)
      refine lv_istore (lv' := [(4, .int (f_X1_keepers i3 (σ 21 3) σ)), (3, .ref (gA G i3)), (0, .ref (gA G 0)), (1, .int x1), (2, .int x2)]) hx hb dX8_mayBe_34 hl (by decide) rfl (fun ls hl => ?_)
      refine lv_iconst (v := 0) hx hb dX8_mayBe_36 (by decide) ?_
      refine lv_istore (lv' := [(5, .int (0 : Int32)), (4, .int (f_X1_keepers i3 (σ 21 3) σ)), (3, .ref (gA G i3)), (0, .ref (gA G 0)), (1, .int x1), (2, .int x2)]) hx hb dX8_mayBe_37 hl (by decide) rfl (fun ls hl => ?_)
      refine lv_bipush (v := -4) hx hb dX8_mayBe_39 (by decide) ?_
      refine lv_istore (lv' := [(6, .int (-4 : Int32)), (5, .int (0 : Int32)), (4, .int (f_X1_keepers i3 (σ 21 3) σ)), (3, .ref (gA G i3)), (0, .ref (gA G 0)), (1, .int x1), (2, .int x2)]) hx hb dX8_mayBe_41 hl (by decide) rfl (fun ls hl => ?_)
      refine lv_aload_n hx hb dX8_mayBe_43 rfl (lv_at hl 4 rfl) ?_
      refine va_get (ci := 4) (C := RX8) (T := TX8) (N := 7) (v := .ref (gA G 21)) hx hb hts inX8 hown hK.1 hP 0 (at_4 rfl) rfl 2 (by decide) w1 (fun _ h9 => h9) rfl dX8_mayBe_44 ?_
      refine k_VNv (As := []) (rest := []) Z hK hP hS (t_X7_lastDay l G hG 21 (rfl : kd 21 = 3) σ) ⟨va_cnB 0 hts gX8_mayBe_X7_lastDay_n205 rfl rfl rfl w11n w2 (by decide +kernel) ⟨Nat.le_of_ble_eq_true rfl, Nat.le_of_ble_eq_true rfl⟩, w12, w13⟩ (at_3 (rfl : kd 21 = 3)) rfl rfl hl.1 rfl (Nat.le_of_ble_eq_true rfl) ⟨Nat.zero_le _, Nat.zero_le _⟩ dX8_mayBe_47 (fun H locs hP hS => ?_)
      have J52 : ∀ (fl : Nat) (j3 : Nat) (v4 : Int32) (v5 : Int32) (v6 : Int32) (v7 : Int32) (hj3 : kd j3 = 1) (H : Heap) (locs : List Loc) (hP : Pw G σ H) (hS : va_S (AG G) s.heap H locs) (ls : Array Slot) (hl : lv_has ls 8 [(0, .ref (gA G 0)), (1, .int x1), (2, .int x2), (3, .ref (gA G j3)), (4, .int v4), (5, .int v5), (6, .int v6), (7, .int v7)]) (hF : f_X8_mayBe_52 x1 x2 σ fl j3 v4 v5 v6 v7 = some o), W p l e (headSpec wsX8_mayBe ({ frames := 2, cells := 0, slots := 0, locals := 43 })).room s m ([.ref (gA G 0), .int x1, .int x2] : List Value).toArray below meth c H locs 0 0 (MQ below (qR G (some (.int o)) σ) ([.ref (gA G 0), .int x1, .int x2] : List Value).toArray s 0 0 (AG G)) (F0 m 52 ls []) := by
        intro fl52
        induction fl52 with
        | zero => intro j3 v4 v5 v6 v7 hj3 H locs hP hS ls hl hF; cases hF
        | succ fl52 ih52 =>
          intro j3 v4 v5 v6 v7 hj3 H locs hP hS ls hl hF
          rw [f_X8_mayBe_52_s] at hF
          refine lv_iload hx hb dX8_mayBe_52 (lv_at hl 7 rfl) ?_
          refine lv_if_lt (tgt := 89) hx hb dX8_mayBe_54 (by decide) (fun c5 => ?_) (fun c5 => ?_)
          · have hF := ite_t c5 hF
            refine lv_iload_n hx hb dX8_mayBe_89 rfl (lv_at hl 2 rfl) ?_
            refine lv_if_ne (tgt := 98) hx hb dX8_mayBe_90 (by decide) (fun c6 => ?_) (fun c6 => ?_)
            · have hF := ite_f c6 hF
              refine lv_iload hx hb dX8_mayBe_98 (lv_at hl 6 rfl) ?_
              exact e_iP hx hb hr hP hS hlocks dX8_mayBe_100 hF
            · have hF := ite_t c6 hF
              refine lv_iload hx hb dX8_mayBe_93 (lv_at hl 5 rfl) ?_
              refine lv_goto (tgt := 100) hx hb dX8_mayBe_95 (by decide) ?_
              exact e_iP hx hb hr hP hS hlocks dX8_mayBe_100 hF
          · have hF := ite_f c5 hF
            refine lv_aload_n hx hb dX8_mayBe_57 rfl (lv_at hl 3 rfl) ?_
            refine lv_aload_n hx hb dX8_mayBe_58 rfl (lv_at hl 0 rfl) ?_
            refine va_get (ci := 4) (C := RX8) (T := TX8) (N := 7) (v := .ref (gA G 21)) hx hb hts inX8 hown hK.1 hP 0 (at_4 rfl) rfl 2 (by decide) w1 (fun _ h9 => h9) rfl dX8_mayBe_59 ?_
            refine va_getN (ci := 3) (C := RX7) (T := TX7) (N := 4) (v := .int (σ 21 3)) hx hb hts inX7 hown hK.1 hP 21 (at_3 (rfl : kd 21 = 3)) rfl 3 (by decide) w6 (fun _ h9 => h9) rfl dX8_mayBe_62 ?_
            refine lv_iload hx hb dX8_mayBe_65 (lv_at hl 7 rfl) ?_
            refine lv_isub hx hb dX8_mayBe_67 ?_
            refine k_VNv (As := [.int ((σ 21 3) - v7)]) (rest := []) Z hK hP hS (t_X1_keepersAfter l G hG j3 ((σ 21 3) - v7) hj3 σ) ⟨va_cnB 1 hts gX8_mayBe_X1_keepersAfter_n208 rfl rfl rfl w14n w7 (by decide +kernel) ⟨Nat.le_of_ble_eq_true rfl, Nat.le_of_ble_eq_true rfl⟩, w15, w16⟩ (at_1 hj3) rfl rfl hl.1 rfl (Nat.le_of_ble_eq_true rfl) ⟨Nat.zero_le _, Nat.zero_le _⟩ dX8_mayBe_68 (fun H locs hP hS => ?_)
            refine lv_iload hx hb dX8_mayBe_71 (lv_at hl 4 rfl) ?_
            have J83 : ∀ (j3 : Nat) (v4 : Int32) (v5 : Int32) (v6 : Int32) (v7 : Int32) (hj3 : kd j3 = 1) (H : Heap) (locs : List Loc) (hP : Pw G σ H) (hS : va_S (AG G) s.heap H locs) (ls : Array Slot) (hl : lv_has ls 8 [(0, .ref (gA G 0)), (1, .int x1), (2, .int x2), (3, .ref (gA G j3)), (4, .int v4), (5, .int v5), (6, .int v6), (7, .int v7)]) (hF : f_X8_mayBe_83 x1 x2 σ (f_X8_mayBe_52 x1 x2 σ fl52) j3 v4 v5 v6 v7 = some o), W p l e (headSpec wsX8_mayBe ({ frames := 2, cells := 0, slots := 0, locals := 43 })).room s m ([.ref (gA G 0), .int x1, .int x2] : List Value).toArray below meth c H locs 0 0 (MQ below (qR G (some (.int o)) σ) ([.ref (gA G 0), .int x1, .int x2] : List Value).toArray s 0 0 (AG G)) (F0 m 83 ls []) := by
              intro j3 v4 v5 v6 v7 hj3 H locs hP hS ls hl hF
              rw [f_X8_mayBe_83_e] at hF
              refine lv_iinc (v := (v7 + (-1 : Int32))) (lv' := [(7, .int (v7 + (-1 : Int32))), (0, .ref (gA G 0)), (1, .int x1), (2, .int x2), (3, .ref (gA G j3)), (4, .int v4), (5, .int v5), (6, .int v6)]) hx hb dX8_mayBe_83 hl (k := 7) rfl rfl (by decide) rfl (fun ls hl => ?_)
              refine lv_goto (tgt := 52) hx hb dX8_mayBe_86 (by decide) ?_
              exact ih52 j3 v4 v5 v6 (v7 + (-1 : Int32)) (hj3) _ _ hP hS ls (lv_sub hl [1, 2, 3, 4, 5, 6, 7, 0] rfl) hF
            refine lv_icmp_ne (tgt := 83) hx hb dX8_mayBe_73 (by decide) (fun c7 => ?_) (fun c7 => ?_)
            · have hF := ite_f c7 hF
              exact J83 j3 v4 v5 v6 v7 (hj3) _ _ hP hS ls (lv_sub hl [0, 1, 2, 3, 4, 5, 6, 7] rfl) hF
            · have hF := ite_t c7 hF
              refine lv_iinc (v := (v5 + (1 : Int32))) (lv' := [(5, .int (v5 + (1 : Int32))), (0, .ref (gA G 0)), (1, .int x1), (2, .int x2), (3, .ref (gA G j3)), (4, .int v4), (6, .int v6), (7, .int v7)]) hx hb dX8_mayBe_76 hl (k := 5) rfl rfl (by decide) rfl (fun ls hl => ?_)
              refine lv_iload hx hb dX8_mayBe_79 (lv_at hl 7 rfl) ?_
              refine lv_istore (lv' := [(6, .int v7), (5, .int (v5 + (1 : Int32))), (0, .ref (gA G 0)), (1, .int x1), (2, .int x2), (3, .ref (gA G j3)), (4, .int v4), (7, .int v7)]) hx hb dX8_mayBe_81 hl (by decide) rfl (fun ls hl => ?_)
              exact J83 j3 v4 (v5 + (1 : Int32)) v7 v7 (hj3) _ _ hP hS ls (lv_sub hl [2, 3, 4, 5, 6, 1, 0, 7] rfl) hF
      refine lv_istore (lv' := [(7, .int (f_X7_lastDay 21 σ)), (6, .int (-4 : Int32)), (5, .int (0 : Int32)), (4, .int (f_X1_keepers i3 (σ 21 3) σ)), (3, .ref (gA G i3)), (0, .ref (gA G 0)), (1, .int x1), (2, .int x2)]) hx hb dX8_mayBe_50 hl (by decide) rfl (fun ls hl => ?_)
      exact J52 fu i3 (f_X1_keepers i3 (σ 21 3) σ) (0 : Int32) (-4 : Int32) (f_X7_lastDay 21 σ) (ki3) _ _ hP hS ls (lv_sub hl [5, 6, 7, 4, 3, 2, 1, 0] rfl) hF
    · have hF := ite_f (b2i_e0 c4) hF
      refine lv_iconst (v := -1) hx hb dX8_mayBe_21 (by decide) ?_
      exact e_iP hx hb hr hP hS hlocks dX8_mayBe_22 hF
def f_X8_law_121 (x1 : Int32) (x2 : Int32) (x3 : Int32) (σ : St) (rec74 : Nat → Int32 → Int32 → Int32 → Option Int32) (j4 : Nat) (v6 : Int32) (v7 : Int32) (v8 : Int32) : Option Int32 := (rec74 j4 v6 v7 (v8 + (1 : Int32)))
theorem f_X8_law_121_e {x1 : Int32} {x2 : Int32} {x3 : Int32} {σ : St} {rec74 : Nat → Int32 → Int32 → Int32 → Option Int32} {j4 : Nat} {v6 : Int32} {v7 : Int32} {v8 : Int32} : f_X8_law_121 x1 x2 x3 σ rec74 j4 v6 v7 v8 = (rec74 j4 v6 v7 (v8 + (1 : Int32))) := rfl
def f_X8_law_100 (x1 : Int32) (x2 : Int32) (x3 : Int32) (σ : St) (rec74 : Nat → Int32 → Int32 → Int32 → Option Int32) (j4 : Nat) (v6 : Int32) (v7 : Int32) (v8 : Int32) (z0 : Int32) : Option Int32 := (ob (f_X5_tellsAlways j4 z0 σ) (fun q8 => if q8 = true then (f_X8_law_121 x1 x2 x3 σ rec74 j4 (v6 ||| ((1 : Int32) <<< (v8 &&& 31))) v7 v8) else f_X8_law_121 x1 x2 x3 σ rec74 j4 v6 v7 v8))
theorem f_X8_law_100_e {x1 : Int32} {x2 : Int32} {x3 : Int32} {σ : St} {rec74 : Nat → Int32 → Int32 → Int32 → Option Int32} {j4 : Nat} {v6 : Int32} {v7 : Int32} {v8 : Int32} {z0 : Int32} : f_X8_law_100 x1 x2 x3 σ rec74 j4 v6 v7 v8 z0 = (ob (f_X5_tellsAlways j4 z0 σ) (fun q8 => if q8 = true then (f_X8_law_121 x1 x2 x3 σ rec74 j4 (v6 ||| ((1 : Int32) <<< (v8 &&& 31))) v7 v8) else f_X8_law_121 x1 x2 x3 σ rec74 j4 v6 v7 v8)) := rfl
def f_X8_law_74 (x1 : Int32) (x2 : Int32) (x3 : Int32) (σ : St) : Nat → (Nat → Int32 → Int32 → Int32 → Option Int32)
  | 0 => fun _ _ _ _ => none
  | fl + 1 => fun j4 v6 v7 v8 => (if v7 ≤ v8 then (some v6) else (if x3 = 0 then (f_X8_law_100 x1 x2 x3 σ (f_X8_law_74 x1 x2 x3 σ fl) j4 v6 v7 v8 (f_X4_lasting v8 x2)) else (f_X8_law_100 x1 x2 x3 σ (f_X8_law_74 x1 x2 x3 σ fl) j4 v6 v7 v8 (f_X4_lasting x2 v8))))
theorem f_X8_law_74_s {x1 : Int32} {x2 : Int32} {x3 : Int32} {σ : St} (fl : Nat) {j4 : Nat} {v6 : Int32} {v7 : Int32} {v8 : Int32} : f_X8_law_74 x1 x2 x3 σ (fl + 1) j4 v6 v7 v8 = (if v7 ≤ v8 then (some v6) else (if x3 = 0 then (f_X8_law_100 x1 x2 x3 σ (f_X8_law_74 x1 x2 x3 σ fl) j4 v6 v7 v8 (f_X4_lasting v8 x2)) else (f_X8_law_100 x1 x2 x3 σ (f_X8_law_74 x1 x2 x3 σ fl) j4 v6 v7 v8 (f_X4_lasting x2 v8)))) := rfl
def f_X8_law_69 (x1 : Int32) (x2 : Int32) (x3 : Int32) (σ : St) (j4 : Nat) (v6 : Int32) (z0 : Int32) : Option Int32 := (f_X8_law_74 x1 x2 x3 σ fu j4 v6 z0 (0 : Int32))
theorem f_X8_law_69_e {x1 : Int32} {x2 : Int32} {x3 : Int32} {σ : St} {j4 : Nat} {v6 : Int32} {z0 : Int32} : f_X8_law_69 x1 x2 x3 σ j4 v6 z0 = (f_X8_law_74 x1 x2 x3 σ fu j4 v6 z0 (0 : Int32)) := rfl
def f_X8_law_20 (x1 : Int32) (x2 : Int32) (x3 : Int32) (σ : St) (z0 : Int32) (z1 : Int32) : Option Int32 := (if (f_X8_isBelow z0 z1) = true then (ob (f_X8_shelfAt x1 σ) (fun q3 => oc q3 ((some (f_X8_rowRefusal none σ))) (fun i5 => (if (f_X8_rowRefusal (some i5) σ) = 0 then (if x3 = 0 then (f_X8_law_69 x1 x2 x3 σ i5 (0 : Int32) (8 : Int32)) else (f_X8_law_69 x1 x2 x3 σ i5 (0 : Int32) (10 : Int32))) else (some (f_X8_rowRefusal (some i5) σ)))))) else (some (-1 : Int32)))
theorem f_X8_law_20_e {x1 : Int32} {x2 : Int32} {x3 : Int32} {σ : St} {z0 : Int32} {z1 : Int32} : f_X8_law_20 x1 x2 x3 σ z0 z1 = (if (f_X8_isBelow z0 z1) = true then (ob (f_X8_shelfAt x1 σ) (fun q3 => oc q3 ((some (f_X8_rowRefusal none σ))) (fun i5 => (if (f_X8_rowRefusal (some i5) σ) = 0 then (if x3 = 0 then (f_X8_law_69 x1 x2 x3 σ i5 (0 : Int32) (8 : Int32)) else (f_X8_law_69 x1 x2 x3 σ i5 (0 : Int32) (10 : Int32))) else (some (f_X8_rowRefusal (some i5) σ)))))) else (some (-1 : Int32))) := rfl
def f_X8_law (x1 : Int32) (x2 : Int32) (x3 : Int32) (σ : St) : Option Int32 := (if (f_X8_isBelow x3 (2 : Int32)) = true then (if x3 = 0 then (f_X8_law_20 x1 x2 x3 σ x2 (10 : Int32)) else (f_X8_law_20 x1 x2 x3 σ x2 (8 : Int32))) else (some (-1 : Int32)))
set_option maxRecDepth 100000 in
set_option maxHeartbeats 4000000 in
theorem t_X8_law (l : Launch) (G : GT) (hG : Dw G) (x1 : Int32) (x2 : Int32) (x3 : Int32) (σ : St) (o : Int32) (hF : f_X8_law x1 x2 x3 σ = some o) : Ct l G yX8_law wsX8_law 3 64 [.ref (gA G 0), .int x1, .int x2, .int x3] σ (some (.int o)) σ := by
  refine Met.ofW (cc := cX8_law) (maxL := 10) (ret := (some .int)) (by decide) rfl ?_
  intro p e s m args below meth c s₁ B hml hv
  obtain ⟨rfl, hP, hK⟩ := hv
  have hx := B.exec
  have hb := B.bytes
  have hr := B.returns
  have hts := atoms_spec (ws := wsX8_law) B.pre
  have hown : s.vm.findClass RX8 = some m.cls := findClass_of_methodNamed B.named
  have hlocks := B.notSynchronized
  have Z : CallFix p m c cX8_law 10 s _ wsX8_law RX8 := ⟨hx, hb, hml, hown, hts⟩
  have hS : va_S (AG G) s.heap s.heap [] := va_S.rf
  have w1 := hts (.initialized RX5) (by decide +kernel)
  have w2n : va_Nw (.methodLinkNest "AlmanacOfTheYearGone" 215 ⟨"AlmanacOfTheYearGone$Shelf", "tellsAlways", "(I)Z"⟩ "AlmanacOfTheYearGone") s := hK.2 _ (List.mem_of_getElem? (i := 93) rfl)
  have w2 := va_Nw.use (A := [.ref (gA G 0), .int x1, .int x2, .int x3].toArray) rfl w2n
  have w3 := hts (.instanceMethod yX5_tellsAlways) (by decide +kernel)
  have w4 := hts (.selects RX5 yX5_tellsAlways yX5_tellsAlways) (by decide +kernel)
  have w5 := hts (.initialized RX4) (by decide +kernel)
  have w6n : va_Nw (.methodLinkNest "AlmanacOfTheYearGone" 211 ⟨"AlmanacOfTheYearGone$Law", "lasting", "(II)I"⟩ "AlmanacOfTheYearGone") s := hK.2 _ (List.mem_of_getElem? (i := 92) rfl)
  have w6 := va_Nw.use (A := [.ref (gA G 0), .int x1, .int x2, .int x3].toArray) rfl w6n
  have w7 := hts (.static yX4_lasting) (by decide +kernel)
  have hl := lv_entry ([.ref (gA G 0), .int x1, .int x2, .int x3]) (n := 10) (Nat.le_of_ble_eq_true rfl)
  rw [lg_entry_eq]
  generalize (lg_sl ([.ref (gA G 0), .int x1, .int x2, .int x3]) ++ List.replicate (10 - (lg_sl ([.ref (gA G 0), .int x1, .int x2, .int x3])).length) Slot.unset).toArray = ls at hl ⊢
  have hl : lv_has ls 10 [(0, .ref (gA G 0)), (1, .int x1), (2, .int x2), (3, .int x3)] := hl
  unfold f_X8_law at hF
  refine lv_iload_n hx hb dX8_law_0 rfl (lv_at hl 3 rfl) ?_
  refine lv_iconst (v := 2) hx hb dX8_law_1 (by decide) ?_
  refine k_Sv (As := [.int x3, .int (2 : Int32)]) (rest := []) Z hK hP hS (t_X8_isBelow l G hG x3 (2 : Int32) σ) (va_cwS 2 hts gX8_law_X8_isBelow rfl rfl rfl (by decide +kernel) ⟨Nat.le_of_ble_eq_true rfl, Nat.le_of_ble_eq_true rfl⟩) rfl hl.1 rfl (Nat.le_of_ble_eq_true rfl) ⟨Nat.zero_le _, Nat.zero_le _⟩ dX8_law_2 (fun H locs hP hS => ?_)
  refine lv_if_eq (tgt := 26) hx hb dX8_law_5 (by decide) (fun c1 => ?_) (fun c1 => ?_)
  · have hF := ite_f (b2i_e0 c1) hF
    refine lv_iconst (v := -1) hx hb dX8_law_26 (by decide) ?_
    exact e_iP hx hb hr hP hS hlocks dX8_law_27 hF
  · have hF := ite_t (b2i_n0 c1) hF
    refine lv_iload_n hx hb dX8_law_8 rfl (lv_at hl 2 rfl) ?_
    refine lv_iload_n hx hb dX8_law_9 rfl (lv_at hl 3 rfl) ?_
    have J20 : ∀ (z0 : Int32) (z1 : Int32) (H : Heap) (locs : List Loc) (hP : Pw G σ H) (hS : va_S (AG G) s.heap H locs) (ls : Array Slot) (hl : lv_has ls 10 [(0, .ref (gA G 0)), (1, .int x1), (2, .int x2), (3, .int x3)]) (hF : f_X8_law_20 x1 x2 x3 σ z0 z1 = some o), W p l e (headSpec wsX8_law ({ frames := 3, cells := 0, slots := 0, locals := 64 })).room s m ([.ref (gA G 0), .int x1, .int x2, .int x3] : List Value).toArray below meth c H locs 0 0 (MQ below (qR G (some (.int o)) σ) ([.ref (gA G 0), .int x1, .int x2, .int x3] : List Value).toArray s 0 0 (AG G)) (F0 m 20 ls [.int z1, .int z0]) := by
      intro z0 z1 H locs hP hS ls hl hF
      rw [f_X8_law_20_e] at hF
      refine k_Sv (As := [.int z0, .int z1]) (rest := []) Z hK hP hS (t_X8_isBelow l G hG z0 z1 σ) (va_cwS 2 hts gX8_law_X8_isBelow rfl rfl rfl (by decide +kernel) ⟨Nat.le_of_ble_eq_true rfl, Nat.le_of_ble_eq_true rfl⟩) rfl hl.1 rfl (Nat.le_of_ble_eq_true rfl) ⟨Nat.zero_le _, Nat.zero_le _⟩ dX8_law_20 (fun H locs hP hS => ?_)
      refine lv_if_ne (tgt := 28) hx hb dX8_law_23 (by decide) (fun c2 => ?_) (fun c2 => ?_)
      · have hF := ite_t (b2i_n0 c2) hF
        refine lv_aload_n hx hb dX8_law_28 rfl (lv_at hl 0 rfl) ?_
        refine lv_iload_n hx hb dX8_law_29 rfl (lv_at hl 1 rfl) ?_
        obtain ⟨q3, h4, hF⟩ := ob_some hF
        refine k_Vv (As := [.int x1]) (rest := []) Z hK hP hS (t_X8_shelfAt l G hG x1 σ _ h4) (cwV 1 hts gX8_law_X8_shelfAt rfl rfl rfl (by decide +kernel) ⟨Nat.le_of_ble_eq_true rfl, Nat.le_of_ble_eq_true rfl⟩) (at_4 rfl) rfl rfl hl.1 rfl (Nat.le_of_ble_eq_true rfl) ⟨Nat.zero_le _, Nat.zero_le _⟩ dX8_law_30 (fun H locs hP hS => ?_)
        rcases q3 with _ | i5
        · have hF := oc_n hF
          refine W.eq (g2 := F0 m 33 ls [.null]) rfl ?_
          refine lv_astoreN (lv' := [(4, .null), (0, .ref (gA G 0)), (1, .int x1), (2, .int x2), (3, .int x3)]) hx hb dX8_law_33 hl (by decide) rfl (fun ls hl => ?_)
          refine lv_aloadN hx hb dX8_law_35 (lv_at hl 0 rfl) ?_
          refine k_Sv (As := [.null]) (rest := []) Z hK hP hS (t_X8_rowRefusal l G hG none (fun _ h9 => by cases h9) σ) (va_cwS 1 hts gX8_law_X8_rowRefusal rfl rfl rfl (by decide +kernel) ⟨Nat.le_of_ble_eq_true rfl, Nat.le_of_ble_eq_true rfl⟩) rfl hl.1 rfl (Nat.le_of_ble_eq_true rfl) ⟨Nat.zero_le _, Nat.zero_le _⟩ dX8_law_37 (fun H locs hP hS => ?_)
          refine lv_istore (lv' := [(5, .int (f_X8_rowRefusal none σ)), (4, .null), (0, .ref (gA G 0)), (1, .int x1), (2, .int x2), (3, .int x3)]) hx hb dX8_law_40 hl (by decide) rfl (fun ls hl => ?_)
          refine lv_aloadN hx hb dX8_law_42 (lv_at hl 1 rfl) ?_
          refine lv_ifnullN (tgt := 52) hx hb dX8_law_44 (by decide) ?_
          refine lv_iload hx hb dX8_law_52 (lv_at hl 0 rfl) ?_
          exact e_iP hx hb hr hP hS hlocks dX8_law_54 hF
        · have hF := oc_s hF
          have ki5 : kd i5 = 2 := q_X8_shelfAt  h4
          refine W.eq (g2 := F0 m 33 ls [.ref (gA G i5)]) rfl ?_
          refine lv_astore (lv' := [(4, .ref (gA G i5)), (0, .ref (gA G 0)), (1, .int x1), (2, .int x2), (3, .int x3)]) hx hb dX8_law_33 hl (by decide) rfl (fun ls hl => ?_)
          refine lv_aload hx hb dX8_law_35 (lv_at hl 0 rfl) ?_
          refine k_Sv (As := [.ref (gA G i5)]) (rest := []) Z hK hP hS (t_X8_rowRefusal l G hG (some i5) (fun _ h9 => by cases h9; exact ki5) σ) (va_cwS 1 hts gX8_law_X8_rowRefusal rfl rfl rfl (by decide +kernel) ⟨Nat.le_of_ble_eq_true rfl, Nat.le_of_ble_eq_true rfl⟩) rfl hl.1 rfl (Nat.le_of_ble_eq_true rfl) ⟨Nat.zero_le _, Nat.zero_le _⟩ dX8_law_37 (fun H locs hP hS => ?_)
          refine lv_istore (lv' := [(5, .int (f_X8_rowRefusal (some i5) σ)), (4, .ref (gA G i5)), (0, .ref (gA G 0)), (1, .int x1), (2, .int x2), (3, .int x3)]) hx hb dX8_law_40 hl (by decide) rfl (fun ls hl => ?_)
          refine lv_aload hx hb dX8_law_42 (lv_at hl 1 rfl) ?_
          refine lv_ifnull hx hb dX8_law_44 ?_
          refine lv_iload hx hb dX8_law_47 (lv_at hl 0 rfl) ?_
          refine lv_if_eq (tgt := 55) hx hb dX8_law_49 (by decide) (fun c6 => ?_) (fun c6 => ?_)
          · have hF := ite_t c6 hF
            refine lv_iconst (v := 0) hx hb dX8_law_55 (by decide) ?_
            refine lv_istore (lv' := [(6, .int (0 : Int32)), (5, .int (f_X8_rowRefusal (some i5) σ)), (4, .ref (gA G i5)), (0, .ref (gA G 0)), (1, .int x1), (2, .int x2), (3, .int x3)]) hx hb dX8_law_56 hl (by decide) rfl (fun ls hl => ?_)
            refine lv_iload_n hx hb dX8_law_58 rfl (lv_at hl 6 rfl) ?_
            have J69 : ∀ (j4 : Nat) (v6 : Int32) (z0 : Int32) (hj4 : kd j4 = 2) (H : Heap) (locs : List Loc) (hP : Pw G σ H) (hS : va_S (AG G) s.heap H locs) (ls : Array Slot) (hl : lv_has ls 10 [(0, .ref (gA G 0)), (1, .int x1), (2, .int x2), (3, .int x3), (4, .ref (gA G j4)), (6, .int v6)]) (hF : f_X8_law_69 x1 x2 x3 σ j4 v6 z0 = some o), W p l e (headSpec wsX8_law ({ frames := 3, cells := 0, slots := 0, locals := 64 })).room s m ([.ref (gA G 0), .int x1, .int x2, .int x3] : List Value).toArray below meth c H locs 0 0 (MQ below (qR G (some (.int o)) σ) ([.ref (gA G 0), .int x1, .int x2, .int x3] : List Value).toArray s 0 0 (AG G)) (F0 m 69 ls [.int z0]) := by
              intro j4 v6 z0 hj4 H locs hP hS ls hl hF
              rw [f_X8_law_69_e] at hF
              refine lv_istore (lv' := [(7, .int z0), (0, .ref (gA G 0)), (1, .int x1), (2, .int x2), (3, .int x3), (4, .ref (gA G j4)), (6, .int v6)]) hx hb dX8_law_69 hl (by decide) rfl (fun ls hl => ?_)
              refine lv_iconst (v := 0) hx hb dX8_law_71 (by decide) ?_
              have J74 : ∀ (fl : Nat) (j4 : Nat) (v6 : Int32) (v7 : Int32) (v8 : Int32) (hj4 : kd j4 = 2) (H : Heap) (locs : List Loc) (hP : Pw G σ H) (hS : va_S (AG G) s.heap H locs) (ls : Array Slot) (hl : lv_has ls 10 [(0, .ref (gA G 0)), (1, .int x1), (2, .int x2), (3, .int x3), (4, .ref (gA G j4)), (6, .int v6), (7, .int v7), (8, .int v8)]) (hF : f_X8_law_74 x1 x2 x3 σ fl j4 v6 v7 v8 = some o), W p l e (headSpec wsX8_law ({ frames := 3, cells := 0, slots := 0, locals := 64 })).room s m ([.ref (gA G 0), .int x1, .int x2, .int x3] : List Value).toArray below meth c H locs 0 0 (MQ below (qR G (some (.int o)) σ) ([.ref (gA G 0), .int x1, .int x2, .int x3] : List Value).toArray s 0 0 (AG G)) (F0 m 74 ls []) := by
                intro fl74
                induction fl74 with
                | zero => intro j4 v6 v7 v8 hj4 H locs hP hS ls hl hF; cases hF
                | succ fl74 ih74 =>
                  intro j4 v6 v7 v8 hj4 H locs hP hS ls hl hF
                  rw [f_X8_law_74_s] at hF
                  refine lv_iload hx hb dX8_law_74 (lv_at hl 7 rfl) ?_
                  refine lv_iload hx hb dX8_law_76 (lv_at hl 6 rfl) ?_
                  refine lv_icmp_ge (tgt := 127) hx hb dX8_law_78 (by decide) (fun c7 => ?_) (fun c7 => ?_)
                  · have hF := ite_t c7 hF
                    refine lv_iload hx hb dX8_law_127 (lv_at hl 5 rfl) ?_
                    exact e_iP hx hb hr hP hS hlocks dX8_law_129 hF
                  · have hF := ite_f c7 hF
                    refine lv_iload_n hx hb dX8_law_81 rfl (lv_at hl 3 rfl) ?_
                    have J100 : ∀ (j4 : Nat) (v6 : Int32) (v7 : Int32) (v8 : Int32) (z0 : Int32) (hj4 : kd j4 = 2) (H : Heap) (locs : List Loc) (hP : Pw G σ H) (hS : va_S (AG G) s.heap H locs) (ls : Array Slot) (hl : lv_has ls 10 [(0, .ref (gA G 0)), (1, .int x1), (2, .int x2), (3, .int x3), (4, .ref (gA G j4)), (6, .int v6), (7, .int v7), (8, .int v8)]) (hF : f_X8_law_100 x1 x2 x3 σ (f_X8_law_74 x1 x2 x3 σ fl74) j4 v6 v7 v8 z0 = some o), W p l e (headSpec wsX8_law ({ frames := 3, cells := 0, slots := 0, locals := 64 })).room s m ([.ref (gA G 0), .int x1, .int x2, .int x3] : List Value).toArray below meth c H locs 0 0 (MQ below (qR G (some (.int o)) σ) ([.ref (gA G 0), .int x1, .int x2, .int x3] : List Value).toArray s 0 0 (AG G)) (F0 m 100 ls [.int z0]) := by
                      intro j4 v6 v7 v8 z0 hj4 H locs hP hS ls hl hF
                      rw [f_X8_law_100_e] at hF
                      refine lv_istore (lv' := [(9, .int z0), (0, .ref (gA G 0)), (1, .int x1), (2, .int x2), (3, .int x3), (4, .ref (gA G j4)), (6, .int v6), (7, .int v7), (8, .int v8)]) hx hb dX8_law_100 hl (by decide) rfl (fun ls hl => ?_)
                      refine lv_aload hx hb dX8_law_102 (lv_at hl 5 rfl) ?_
                      refine lv_iload hx hb dX8_law_104 (lv_at hl 0 rfl) ?_
                      obtain ⟨q8, h9, hF⟩ := ob_some hF
                      refine k_VNv (As := [.int z0]) (rest := []) Z hK hP hS (t_X5_tellsAlways l G hG j4 z0 hj4 σ _ h9) ⟨va_cnB 1 hts gX8_law_X5_tellsAlways_n215 rfl rfl rfl w2n w1 (by decide +kernel) ⟨Nat.le_of_ble_eq_true rfl, Nat.le_of_ble_eq_true rfl⟩, w3, w4⟩ (at_2 hj4) rfl rfl hl.1 rfl (Nat.le_of_ble_eq_true rfl) ⟨Nat.zero_le _, Nat.zero_le _⟩ dX8_law_106 (fun H locs hP hS => ?_)
                      have J121 : ∀ (j4 : Nat) (v6 : Int32) (v7 : Int32) (v8 : Int32) (hj4 : kd j4 = 2) (H : Heap) (locs : List Loc) (hP : Pw G σ H) (hS : va_S (AG G) s.heap H locs) (ls : Array Slot) (hl : lv_has ls 10 [(0, .ref (gA G 0)), (1, .int x1), (2, .int x2), (3, .int x3), (4, .ref (gA G j4)), (6, .int v6), (7, .int v7), (8, .int v8)]) (hF : f_X8_law_121 x1 x2 x3 σ (f_X8_law_74 x1 x2 x3 σ fl74) j4 v6 v7 v8 = some o), W p l e (headSpec wsX8_law ({ frames := 3, cells := 0, slots := 0, locals := 64 })).room s m ([.ref (gA G 0), .int x1, .int x2, .int x3] : List Value).toArray below meth c H locs 0 0 (MQ below (qR G (some (.int o)) σ) ([.ref (gA G 0), .int x1, .int x2, .int x3] : List Value).toArray s 0 0 (AG G)) (F0 m 121 ls []) := by
                        intro j4 v6 v7 v8 hj4 H locs hP hS ls hl hF
                        rw [f_X8_law_121_e] at hF
                        refine lv_iinc (v := (v8 + (1 : Int32))) (lv' := [(8, .int (v8 + (1 : Int32))), (0, .ref (gA G 0)), (1, .int x1), (2, .int x2), (3, .int x3), (4, .ref (gA G j4)), (6, .int v6), (7, .int v7)]) hx hb dX8_law_121 hl (k := 7) rfl rfl (by decide) rfl (fun ls hl => ?_)
                        refine lv_goto (tgt := 74) hx hb dX8_law_124 (by decide) ?_
                        exact ih74 j4 v6 v7 (v8 + (1 : Int32)) (hj4) _ _ hP hS ls (lv_sub hl [1, 2, 3, 4, 5, 6, 7, 0] rfl) hF
                      refine lv_if_eq (tgt := 121) hx hb dX8_law_109 (by decide) (fun c10 => ?_) (fun c10 => ?_)
                      · have hF := ite_f (b2i_e0 c10) hF
                        exact J121 j4 v6 v7 v8 (hj4) _ _ hP hS ls (lv_sub hl [1, 2, 3, 4, 5, 6, 7, 8] rfl) hF
                      · have hF := ite_t (b2i_n0 c10) hF
                        refine lv_iload hx hb dX8_law_112 (lv_at hl 6 rfl) ?_
                        refine lv_iconst (v := 1) hx hb dX8_law_114 (by decide) ?_
                        refine lv_iload hx hb dX8_law_115 (lv_at hl 8 rfl) ?_
                        refine lv_ishl hx hb dX8_law_117 ?_
                        refine lv_ior hx hb dX8_law_118 ?_
                        refine lv_istore (lv' := [(6, .int (v6 ||| ((1 : Int32) <<< (v8 &&& 31)))), (9, .int z0), (0, .ref (gA G 0)), (1, .int x1), (2, .int x2), (3, .int x3), (4, .ref (gA G j4)), (7, .int v7), (8, .int v8)]) hx hb dX8_law_119 hl (by decide) rfl (fun ls hl => ?_)
                        exact J121 j4 (v6 ||| ((1 : Int32) <<< (v8 &&& 31))) v7 v8 (hj4) _ _ hP hS ls (lv_sub hl [2, 3, 4, 5, 6, 0, 7, 8] rfl) hF
                    refine lv_if_ne (tgt := 94) hx hb dX8_law_82 (by decide) (fun c11 => ?_) (fun c11 => ?_)
                    · have hF := ite_f c11 hF
                      refine lv_iload_n hx hb dX8_law_94 rfl (lv_at hl 2 rfl) ?_
                      refine lv_iload hx hb dX8_law_95 (lv_at hl 7 rfl) ?_
                      refine k_SNv (As := [.int x2, .int v8]) (rest := []) Z hK hP hS (t_X4_lasting l G hG x2 v8 σ) ⟨va_cnB 2 hts gX8_law_X4_lasting_n211 rfl rfl rfl w6n w5 (by decide +kernel) ⟨Nat.le_of_ble_eq_true rfl, Nat.le_of_ble_eq_true rfl⟩, w7, trivial⟩ rfl hl.1 rfl (Nat.le_of_ble_eq_true rfl) ⟨Nat.zero_le _, Nat.zero_le _⟩ dX8_law_97 (fun H locs hP hS => ?_)
                      exact J100 j4 v6 v7 v8 (f_X4_lasting x2 v8) (hj4) _ _ hP hS ls (lv_sub hl [0, 1, 2, 3, 4, 5, 6, 7] rfl) hF
                    · have hF := ite_t c11 hF
                      refine lv_iload hx hb dX8_law_85 (lv_at hl 7 rfl) ?_
                      refine lv_iload_n hx hb dX8_law_87 rfl (lv_at hl 2 rfl) ?_
                      refine k_SNv (As := [.int v8, .int x2]) (rest := []) Z hK hP hS (t_X4_lasting l G hG v8 x2 σ) ⟨va_cnB 2 hts gX8_law_X4_lasting_n211 rfl rfl rfl w6n w5 (by decide +kernel) ⟨Nat.le_of_ble_eq_true rfl, Nat.le_of_ble_eq_true rfl⟩, w7, trivial⟩ rfl hl.1 rfl (Nat.le_of_ble_eq_true rfl) ⟨Nat.zero_le _, Nat.zero_le _⟩ dX8_law_88 (fun H locs hP hS => ?_)
                      refine lv_goto (tgt := 100) hx hb dX8_law_91 (by decide) ?_
                      exact J100 j4 v6 v7 v8 (f_X4_lasting v8 x2) (hj4) _ _ hP hS ls (lv_sub hl [0, 1, 2, 3, 4, 5, 6, 7] rfl) hF
              refine lv_istore (lv' := [(8, .int (0 : Int32)), (7, .int z0), (0, .ref (gA G 0)), (1, .int x1), (2, .int x2), (3, .int x3), (4, .ref (gA G j4)), (6, .int v6)]) hx hb dX8_law_72 hl (by decide) rfl (fun ls hl => ?_)
              exact J74 fu j4 v6 z0 (0 : Int32) (hj4) _ _ hP hS ls (lv_sub hl [2, 3, 4, 5, 6, 7, 1, 0] rfl) hF
            refine lv_if_ne (tgt := 67) hx hb dX8_law_59 (by decide) (fun c12 => ?_) (fun c12 => ?_)
            · have hF := ite_f c12 hF
              refine lv_bipush (v := 10) hx hb dX8_law_67 (by decide) ?_
              exact J69 i5 (0 : Int32) (10 : Int32) (ki5) _ _ hP hS ls (lv_sub hl [3, 4, 5, 6, 2, 0] rfl) hF
            · have hF := ite_t c12 hF
              refine lv_bipush (v := 8) hx hb dX8_law_62 (by decide) ?_
              refine lv_goto (tgt := 69) hx hb dX8_law_64 (by decide) ?_
              exact J69 i5 (0 : Int32) (8 : Int32) (ki5) _ _ hP hS ls (lv_sub hl [3, 4, 5, 6, 2, 0] rfl) hF
          · have hF := ite_f c6 hF
            refine lv_iload hx hb dX8_law_52 (lv_at hl 0 rfl) ?_
            exact e_iP hx hb hr hP hS hlocks dX8_law_54 hF
      · have hF := ite_f (b2i_e0 c2) hF
        refine lv_iconst (v := -1) hx hb dX8_law_26 (by decide) ?_
        exact e_iP hx hb hr hP hS hlocks dX8_law_27 hF
    refine lv_if_ne (tgt := 18) hx hb dX8_law_10 (by decide) (fun c13 => ?_) (fun c13 => ?_)
    · have hF := ite_f c13 hF
      refine lv_bipush (v := 8) hx hb dX8_law_18 (by decide) ?_
      exact J20 x2 (8 : Int32) _ _ hP hS ls (lv_sub hl [0, 1, 2, 3] rfl) hF
    · have hF := ite_t c13 hF
      refine lv_bipush (v := 10) hx hb dX8_law_13 (by decide) ?_
      refine lv_goto (tgt := 20) hx hb dX8_law_15 (by decide) ?_
      exact J20 x2 (10 : Int32) _ _ hP hS ls (lv_sub hl [0, 1, 2, 3] rfl) hF
def f_X8_leastInIt_24 (x1 : Int32) (x2 : Int32) (σ : St) : Nat → (Int32 → Int32 → Option Int32)
  | 0 => fun _ _ => none
  | fl + 1 => fun v3 v4 => (if x1 ≤ v4 then (if x2 = 0 then (some v3) else (ob (f_X7_sizesBut 21 v3 σ) (fun q5 => some q5))) else (ob (f_X7_greatestBut 21 v3 σ) (fun q7 => (f_X8_leastInIt_24 x1 x2 σ fl) (v3 ||| q7) (v4 + (1 : Int32)))))
theorem f_X8_leastInIt_24_s {x1 : Int32} {x2 : Int32} {σ : St} (fl : Nat) {v3 : Int32} {v4 : Int32} : f_X8_leastInIt_24 x1 x2 σ (fl + 1) v3 v4 = (if x1 ≤ v4 then (if x2 = 0 then (some v3) else (ob (f_X7_sizesBut 21 v3 σ) (fun q5 => some q5))) else (ob (f_X7_greatestBut 21 v3 σ) (fun q7 => (f_X8_leastInIt_24 x1 x2 σ fl) (v3 ||| q7) (v4 + (1 : Int32))))) := rfl
def f_X8_leastInIt (x1 : Int32) (x2 : Int32) (σ : St) : Option Int32 := (if (f_X8_isWithin x1 (10 : Int32)) = true then (if (f_X8_isBelow x2 (2 : Int32)) = true then (f_X8_leastInIt_24 x1 x2 σ fu (0 : Int32) (0 : Int32)) else (some (-1 : Int32))) else (some (-1 : Int32)))
set_option maxRecDepth 100000 in
set_option maxHeartbeats 4000000 in
theorem t_X8_leastInIt (l : Launch) (G : GT) (hG : Dw G) (x1 : Int32) (x2 : Int32) (σ : St) (o : Int32) (hF : f_X8_leastInIt x1 x2 σ = some o) : Ct l G yX8_leastInIt wsX8_leastInIt 3 68 [.ref (gA G 0), .int x1, .int x2] σ (some (.int o)) σ := by
  refine Met.ofW (cc := cX8_leastInIt) (maxL := 5) (ret := (some .int)) (by decide) rfl ?_
  intro p e s m args below meth c s₁ B hml hv
  obtain ⟨rfl, hP, hK⟩ := hv
  have hx := B.exec
  have hb := B.bytes
  have hr := B.returns
  have hts := atoms_spec (ws := wsX8_leastInIt) B.pre
  have hown : s.vm.findClass RX8 = some m.cls := findClass_of_methodNamed B.named
  have hlocks := B.notSynchronized
  have Z : CallFix p m c cX8_leastInIt 5 s _ wsX8_leastInIt RX8 := ⟨hx, hb, hml, hown, hts⟩
  have hS : va_S (AG G) s.heap s.heap [] := va_S.rf
  have inX8 : ∀ w ∈ u_ws RX8 TX8 7, w ∈ wsX8_leastInIt := by decide +kernel
  have w1 := hts (.fieldLink RX8 27 "AlmanacOfTheYearGone" "now" "LAlmanacOfTheYearGone$Year;") (by decide +kernel)
  have w2 := hts (.initialized RX7) (by decide +kernel)
  have w3n : va_Nw (.methodLinkNest "AlmanacOfTheYearGone" 222 ⟨"AlmanacOfTheYearGone$Year", "sizesBut", "(I)I"⟩ "AlmanacOfTheYearGone") s := hK.2 _ (List.mem_of_getElem? (i := 96) rfl)
  have w3 := va_Nw.use (A := [.ref (gA G 0), .int x1, .int x2].toArray) rfl w3n
  have w4 := hts (.instanceMethod yX7_sizesBut) (by decide +kernel)
  have w5 := hts (.selects RX7 yX7_sizesBut yX7_sizesBut) (by decide +kernel)
  have w6n : va_Nw (.methodLinkNest "AlmanacOfTheYearGone" 219 ⟨"AlmanacOfTheYearGone$Year", "greatestBut", "(I)I"⟩ "AlmanacOfTheYearGone") s := hK.2 _ (List.mem_of_getElem? (i := 94) rfl)
  have w6 := va_Nw.use (A := [.ref (gA G 0), .int x1, .int x2].toArray) rfl w6n
  have w7 := hts (.instanceMethod yX7_greatestBut) (by decide +kernel)
  have w8 := hts (.selects RX7 yX7_greatestBut yX7_greatestBut) (by decide +kernel)
  have hl := lv_entry ([.ref (gA G 0), .int x1, .int x2]) (n := 5) (Nat.le_of_ble_eq_true rfl)
  rw [lg_entry_eq]
  generalize (lg_sl ([.ref (gA G 0), .int x1, .int x2]) ++ List.replicate (5 - (lg_sl ([.ref (gA G 0), .int x1, .int x2])).length) Slot.unset).toArray = ls at hl ⊢
  have hl : lv_has ls 5 [(0, .ref (gA G 0)), (1, .int x1), (2, .int x2)] := hl
  unfold f_X8_leastInIt at hF
  refine lv_iload_n hx hb dX8_leastInIt_0 rfl (lv_at hl 1 rfl) ?_
  refine lv_bipush (v := 10) hx hb dX8_leastInIt_1 (by decide) ?_
  refine k_Sv (As := [.int x1, .int (10 : Int32)]) (rest := []) Z hK hP hS (t_X8_isWithin l G hG x1 (10 : Int32) σ) (va_cwS 2 hts gX8_leastInIt_X8_isWithin rfl rfl rfl (by decide +kernel) ⟨Nat.le_of_ble_eq_true rfl, Nat.le_of_ble_eq_true rfl⟩) rfl hl.1 rfl (Nat.le_of_ble_eq_true rfl) ⟨Nat.zero_le _, Nat.zero_le _⟩ dX8_leastInIt_3 (fun H locs hP hS => ?_)
  refine lv_if_eq (tgt := 17) hx hb dX8_leastInIt_6 (by decide) (fun c1 => ?_) (fun c1 => ?_)
  · have hF := ite_f (b2i_e0 c1) hF
    refine lv_iconst (v := -1) hx hb dX8_leastInIt_17 (by decide) ?_
    exact e_iP hx hb hr hP hS hlocks dX8_leastInIt_18 hF
  · have hF := ite_t (b2i_n0 c1) hF
    refine lv_iload_n hx hb dX8_leastInIt_9 rfl (lv_at hl 2 rfl) ?_
    refine lv_iconst (v := 2) hx hb dX8_leastInIt_10 (by decide) ?_
    refine k_Sv (As := [.int x2, .int (2 : Int32)]) (rest := []) Z hK hP hS (t_X8_isBelow l G hG x2 (2 : Int32) σ) (va_cwS 2 hts gX8_leastInIt_X8_isBelow rfl rfl rfl (by decide +kernel) ⟨Nat.le_of_ble_eq_true rfl, Nat.le_of_ble_eq_true rfl⟩) rfl hl.1 rfl (Nat.le_of_ble_eq_true rfl) ⟨Nat.zero_le _, Nat.zero_le _⟩ dX8_leastInIt_11 (fun H locs hP hS => ?_)
    refine lv_if_ne (tgt := 19) hx hb dX8_leastInIt_14 (by decide) (fun c2 => ?_) (fun c2 => ?_)
    · have hF := ite_t (b2i_n0 c2) hF
      refine lv_iconst (v := 0) hx hb dX8_leastInIt_19 (by decide) ?_
      refine lv_istore_n (lv' := [(3, .int (0 : Int32)), (0, .ref (gA G 0)), (1, .int x1), (2, .int x2)]) hx hb dX8_leastInIt_20 rfl hl (by decide) rfl (fun ls hl => ?_)
      refine lv_iconst (v := 0) hx hb dX8_leastInIt_21 (by decide) ?_
      have J24 : ∀ (fl : Nat) (v3 : Int32) (v4 : Int32) (H : Heap) (locs : List Loc) (hP : Pw G σ H) (hS : va_S (AG G) s.heap H locs) (ls : Array Slot) (hl : lv_has ls 5 [(0, .ref (gA G 0)), (1, .int x1), (2, .int x2), (3, .int v3), (4, .int v4)]) (hF : f_X8_leastInIt_24 x1 x2 σ fl v3 v4 = some o), W p l e (headSpec wsX8_leastInIt ({ frames := 3, cells := 0, slots := 0, locals := 68 })).room s m ([.ref (gA G 0), .int x1, .int x2] : List Value).toArray below meth c H locs 0 0 (MQ below (qR G (some (.int o)) σ) ([.ref (gA G 0), .int x1, .int x2] : List Value).toArray s 0 0 (AG G)) (F0 m 24 ls []) := by
        intro fl24
        induction fl24 with
        | zero => intro v3 v4 H locs hP hS ls hl hF; cases hF
        | succ fl24 ih24 =>
          intro v3 v4 H locs hP hS ls hl hF
          rw [f_X8_leastInIt_24_s] at hF
          refine lv_iload hx hb dX8_leastInIt_24 (lv_at hl 4 rfl) ?_
          refine lv_iload_n hx hb dX8_leastInIt_26 rfl (lv_at hl 1 rfl) ?_
          refine lv_icmp_ge (tgt := 47) hx hb dX8_leastInIt_27 (by decide) (fun c3 => ?_) (fun c3 => ?_)
          · have hF := ite_t c3 hF
            refine lv_iload_n hx hb dX8_leastInIt_47 rfl (lv_at hl 2 rfl) ?_
            refine lv_if_ne (tgt := 55) hx hb dX8_leastInIt_48 (by decide) (fun c4 => ?_) (fun c4 => ?_)
            · have hF := ite_f c4 hF
              refine lv_aload_n hx hb dX8_leastInIt_55 rfl (lv_at hl 0 rfl) ?_
              refine va_get (ci := 4) (C := RX8) (T := TX8) (N := 7) (v := .ref (gA G 21)) hx hb hts inX8 hown hK.1 hP 0 (at_4 rfl) rfl 2 (by decide) w1 (fun _ h9 => h9) rfl dX8_leastInIt_56 ?_
              refine lv_iload_n hx hb dX8_leastInIt_59 rfl (lv_at hl 3 rfl) ?_
              obtain ⟨q5, h6, hF⟩ := ob_some hF
              refine k_VNv (As := [.int v3]) (rest := []) Z hK hP hS (t_X7_sizesBut l G hG 21 v3 (rfl : kd 21 = 3) σ _ h6) ⟨va_cnB 1 hts gX8_leastInIt_X7_sizesBut_n222 rfl rfl rfl w3n w2 (by decide +kernel) ⟨Nat.le_of_ble_eq_true rfl, Nat.le_of_ble_eq_true rfl⟩, w4, w5⟩ (at_3 (rfl : kd 21 = 3)) rfl rfl hl.1 rfl (Nat.le_of_ble_eq_true rfl) ⟨Nat.zero_le _, Nat.zero_le _⟩ dX8_leastInIt_60 (fun H locs hP hS => ?_)
              exact e_iP hx hb hr hP hS hlocks dX8_leastInIt_63 hF
            · have hF := ite_t c4 hF
              refine lv_iload_n hx hb dX8_leastInIt_51 rfl (lv_at hl 3 rfl) ?_
              refine lv_goto (tgt := 63) hx hb dX8_leastInIt_52 (by decide) ?_
              exact e_iP hx hb hr hP hS hlocks dX8_leastInIt_63 hF
          · have hF := ite_f c3 hF
            refine lv_iload_n hx hb dX8_leastInIt_30 rfl (lv_at hl 3 rfl) ?_
            refine lv_aload_n hx hb dX8_leastInIt_31 rfl (lv_at hl 0 rfl) ?_
            refine va_get (ci := 4) (C := RX8) (T := TX8) (N := 7) (v := .ref (gA G 21)) hx hb hts inX8 hown hK.1 hP 0 (at_4 rfl) rfl 2 (by decide) w1 (fun _ h9 => h9) rfl dX8_leastInIt_32 ?_
            refine lv_iload_n hx hb dX8_leastInIt_35 rfl (lv_at hl 3 rfl) ?_
            obtain ⟨q7, h8, hF⟩ := ob_some hF
            refine k_VNv (As := [.int v3]) (rest := [.int v3]) Z hK hP hS (t_X7_greatestBut l G hG 21 v3 (rfl : kd 21 = 3) σ _ h8) ⟨va_cnB 1 hts gX8_leastInIt_X7_greatestBut_n219 rfl rfl rfl w6n w2 (by decide +kernel) ⟨Nat.le_of_ble_eq_true rfl, Nat.le_of_ble_eq_true rfl⟩, w7, w8⟩ (at_3 (rfl : kd 21 = 3)) rfl rfl hl.1 rfl (Nat.le_of_ble_eq_true rfl) ⟨Nat.zero_le _, Nat.zero_le _⟩ dX8_leastInIt_36 (fun H locs hP hS => ?_)
            refine lv_ior hx hb dX8_leastInIt_39 ?_
            refine lv_istore_n (lv' := [(3, .int (v3 ||| q7)), (0, .ref (gA G 0)), (1, .int x1), (2, .int x2), (4, .int v4)]) hx hb dX8_leastInIt_40 rfl hl (by decide) rfl (fun ls hl => ?_)
            refine lv_iinc (v := (v4 + (1 : Int32))) (lv' := [(4, .int (v4 + (1 : Int32))), (3, .int (v3 ||| q7)), (0, .ref (gA G 0)), (1, .int x1), (2, .int x2)]) hx hb dX8_leastInIt_41 hl (k := 4) rfl rfl (by decide) rfl (fun ls hl => ?_)
            refine lv_goto (tgt := 24) hx hb dX8_leastInIt_44 (by decide) ?_
            exact ih24 (v3 ||| q7) (v4 + (1 : Int32)) _ _ hP hS ls (lv_sub hl [2, 3, 4, 1, 0] rfl) hF
      refine lv_istore (lv' := [(4, .int (0 : Int32)), (3, .int (0 : Int32)), (0, .ref (gA G 0)), (1, .int x1), (2, .int x2)]) hx hb dX8_leastInIt_22 hl (by decide) rfl (fun ls hl => ?_)
      exact J24 fu (0 : Int32) (0 : Int32) _ _ hP hS ls (lv_sub hl [2, 3, 4, 1, 0] rfl) hF
    · have hF := ite_f (b2i_e0 c2) hF
      refine lv_iconst (v := -1) hx hb dX8_leastInIt_17 (by decide) ?_
      exact e_iP hx hb hr hP hS hlocks dX8_leastInIt_18 hF
def f_X8_robin_85 (x1 : Int32) (σ : St) (rec18 : Int32 → Int32 → Int32 → Option Int32) (v2 : Int32) (v3 : Int32) (v4 : Int32) : Option Int32 := (rec18 v2 v3 (v4 + (1 : Int32)))
theorem f_X8_robin_85_e {x1 : Int32} {σ : St} {rec18 : Int32 → Int32 → Int32 → Option Int32} {v2 : Int32} {v3 : Int32} {v4 : Int32} : f_X8_robin_85 x1 σ rec18 v2 v3 v4 = (rec18 v2 v3 (v4 + (1 : Int32))) := rfl
def f_X8_robin_71 (x1 : Int32) (σ : St) (rec18 : Int32 → Int32 → Int32 → Option Int32) (v2 : Int32) (v3 : Int32) (v4 : Int32) (z0 : Int32) : Option Int32 := (if z0 ≤ v3 then f_X8_robin_85 x1 σ rec18 v2 v3 v4 else (f_X8_robin_85 x1 σ rec18 v4 z0 v4))
theorem f_X8_robin_71_e {x1 : Int32} {σ : St} {rec18 : Int32 → Int32 → Int32 → Option Int32} {v2 : Int32} {v3 : Int32} {v4 : Int32} {z0 : Int32} : f_X8_robin_71 x1 σ rec18 v2 v3 v4 z0 = (if z0 ≤ v3 then f_X8_robin_85 x1 σ rec18 v2 v3 v4 else (f_X8_robin_85 x1 σ rec18 v4 z0 v4)) := rfl
def f_X8_robin_70 (x1 : Int32) (σ : St) (rec18 : Int32 → Int32 → Int32 → Option Int32) (v2 : Int32) (v3 : Int32) (v4 : Int32) : Option Int32 := (f_X8_robin_71 x1 σ rec18 v2 v3 v4 (0 : Int32))
theorem f_X8_robin_70_e {x1 : Int32} {σ : St} {rec18 : Int32 → Int32 → Int32 → Option Int32} {v2 : Int32} {v3 : Int32} {v4 : Int32} : f_X8_robin_70 x1 σ rec18 v2 v3 v4 = (f_X8_robin_71 x1 σ rec18 v2 v3 v4 (0 : Int32)) := rfl
def f_X8_robin_18 (x1 : Int32) (σ : St) : Nat → (Int32 → Int32 → Int32 → Option Int32)
  | 0 => fun _ _ _ => none
  | fl + 1 => fun v2 v3 v4 => (if (σ 21 2) ≤ v4 then (some v2) else (ob (f_X7_toldAt 21 v4 σ) (fun q3 => oc q3 ((f_X8_robin_70 x1 σ (f_X8_robin_18 x1 σ fl) v2 v3 v4)) (fun i5 => (if (σ i5 3) = x1 then (f_X8_robin_71 x1 σ (f_X8_robin_18 x1 σ fl) v2 v3 v4 (f_X1_watchersLost i5 (σ 21 3) σ)) else f_X8_robin_70 x1 σ (f_X8_robin_18 x1 σ fl) v2 v3 v4)))))
theorem f_X8_robin_18_s {x1 : Int32} {σ : St} (fl : Nat) {v2 : Int32} {v3 : Int32} {v4 : Int32} : f_X8_robin_18 x1 σ (fl + 1) v2 v3 v4 = (if (σ 21 2) ≤ v4 then (some v2) else (ob (f_X7_toldAt 21 v4 σ) (fun q3 => oc q3 ((f_X8_robin_70 x1 σ (f_X8_robin_18 x1 σ fl) v2 v3 v4)) (fun i5 => (if (σ i5 3) = x1 then (f_X8_robin_71 x1 σ (f_X8_robin_18 x1 σ fl) v2 v3 v4 (f_X1_watchersLost i5 (σ 21 3) σ)) else f_X8_robin_70 x1 σ (f_X8_robin_18 x1 σ fl) v2 v3 v4))))) := rfl
def f_X8_robin (x1 : Int32) (σ : St) : Option Int32 := (if (f_X8_isBelow x1 (5 : Int32)) = true then (f_X8_robin_18 x1 σ fu (-4 : Int32) (0 : Int32) (0 : Int32)) else (some (-1 : Int32)))
set_option maxRecDepth 100000 in
set_option maxHeartbeats 4000000 in
theorem t_X8_robin (l : Launch) (G : GT) (hG : Dw G) (x1 : Int32) (σ : St) (o : Int32) (hF : f_X8_robin x1 σ = some o) : Ct l G yX8_robin wsX8_robin 3 64 [.ref (gA G 0), .int x1] σ (some (.int o)) σ := by
  refine Met.ofW (cc := cX8_robin) (maxL := 7) (ret := (some .int)) (by decide) rfl ?_
  intro p e s m args below meth c s₁ B hml hv
  obtain ⟨rfl, hP, hK⟩ := hv
  have hx := B.exec
  have hb := B.bytes
  have hr := B.returns
  have hts := atoms_spec (ws := wsX8_robin) B.pre
  have hown : s.vm.findClass RX8 = some m.cls := findClass_of_methodNamed B.named
  have hlocks := B.notSynchronized
  have Z : CallFix p m c cX8_robin 7 s _ wsX8_robin RX8 := ⟨hx, hb, hml, hown, hts⟩
  have hS : va_S (AG G) s.heap s.heap [] := va_S.rf
  have inX8 : ∀ w ∈ u_ws RX8 TX8 7, w ∈ wsX8_robin := by decide +kernel
  have inX7 : ∀ w ∈ u_ws RX7 TX7 4, w ∈ wsX8_robin := by decide +kernel
  have inX1 : ∀ w ∈ u_ws RX1 TX1 7, w ∈ wsX8_robin := by decide +kernel
  have w1 := hts (.fieldLink RX8 27 "AlmanacOfTheYearGone" "now" "LAlmanacOfTheYearGone$Year;") (by decide +kernel)
  have w2n : va_Nw (.fieldLinkNest "AlmanacOfTheYearGone" 127 "AlmanacOfTheYearGone$Year" "deedCount" "I" "AlmanacOfTheYearGone") s := hK.2 _ (List.mem_of_getElem? (i := 26) rfl)
  have w2 := va_Nw.use (A := [.ref (gA G 0), .int x1].toArray) rfl w2n
  have w3 := hts (.initialized RX7) (by decide +kernel)
  have w4n : va_Nw (.methodLinkNest "AlmanacOfTheYearGone" 225 ⟨"AlmanacOfTheYearGone$Year", "toldAt", "(I)LAlmanacOfTheYearGone$Deed;"⟩ "AlmanacOfTheYearGone") s := hK.2 _ (List.mem_of_getElem? (i := 97) rfl)
  have w4 := va_Nw.use (A := [.ref (gA G 0), .int x1].toArray) rfl w4n
  have w5 := hts (.instanceMethod yX7_toldAt) (by decide +kernel)
  have w6 := hts (.selects RX7 yX7_toldAt yX7_toldAt) (by decide +kernel)
  have w7n : va_Nw (.fieldLinkNest "AlmanacOfTheYearGone" 91 "AlmanacOfTheYearGone$Deed" "who" "I" "AlmanacOfTheYearGone") s := hK.2 _ (List.mem_of_getElem? (i := 17) rfl)
  have w7 := va_Nw.use (A := [.ref (gA G 0), .int x1].toArray) rfl w7n
  have w8n : va_Nw (.fieldLinkNest "AlmanacOfTheYearGone" 134 "AlmanacOfTheYearGone$Year" "day" "I" "AlmanacOfTheYearGone") s := hK.2 _ (List.mem_of_getElem? (i := 27) rfl)
  have w8 := va_Nw.use (A := [.ref (gA G 0), .int x1].toArray) rfl w8n
  have w9 := hts (.initialized RX1) (by decide +kernel)
  have w10n : va_Nw (.methodLinkNest "AlmanacOfTheYearGone" 228 ⟨"AlmanacOfTheYearGone$Deed", "watchersLost", "(I)I"⟩ "AlmanacOfTheYearGone") s := hK.2 _ (List.mem_of_getElem? (i := 98) rfl)
  have w10 := va_Nw.use (A := [.ref (gA G 0), .int x1].toArray) rfl w10n
  have w11 := hts (.instanceMethod yX1_watchersLost) (by decide +kernel)
  have w12 := hts (.selects RX1 yX1_watchersLost yX1_watchersLost) (by decide +kernel)
  have hl := lv_entry ([.ref (gA G 0), .int x1]) (n := 7) (Nat.le_of_ble_eq_true rfl)
  rw [lg_entry_eq]
  generalize (lg_sl ([.ref (gA G 0), .int x1]) ++ List.replicate (7 - (lg_sl ([.ref (gA G 0), .int x1])).length) Slot.unset).toArray = ls at hl ⊢
  have hl : lv_has ls 7 [(0, .ref (gA G 0)), (1, .int x1)] := hl
  unfold f_X8_robin at hF
  refine lv_iload_n hx hb dX8_robin_0 rfl (lv_at hl 1 rfl) ?_
  refine lv_iconst (v := 5) hx hb dX8_robin_1 (by decide) ?_
  refine k_Sv (As := [.int x1, .int (5 : Int32)]) (rest := []) Z hK hP hS (t_X8_isBelow l G hG x1 (5 : Int32) σ) (va_cwS 2 hts gX8_robin_X8_isBelow rfl rfl rfl (by decide +kernel) ⟨Nat.le_of_ble_eq_true rfl, Nat.le_of_ble_eq_true rfl⟩) rfl hl.1 rfl (Nat.le_of_ble_eq_true rfl) ⟨Nat.zero_le _, Nat.zero_le _⟩ dX8_robin_2 (fun H locs hP hS => ?_)
  refine lv_if_ne (tgt := 10) hx hb dX8_robin_5 (by decide) (fun c1 => ?_) (fun c1 => ?_)
  · have hF := ite_t (b2i_n0 c1) hF
    refine lv_bipush (v := -4) hx hb dX8_robin_10 (by decide) ?_
    refine lv_istore_n (lv' := [(2, .int (-4 : Int32)), (0, .ref (gA G 0)), (1, .int x1)]) hx hb dX8_robin_12 rfl hl (by decide) rfl (fun ls hl => ?_)
    refine lv_iconst (v := 0) hx hb dX8_robin_13 (by decide) ?_
    refine lv_istore_n (lv' := [(3, .int (0 : Int32)), (2, .int (-4 : Int32)), (0, .ref (gA G 0)), (1, .int x1)]) hx hb dX8_robin_14 rfl hl (by decide) rfl (fun ls hl => ?_)
    refine lv_iconst (v := 0) hx hb dX8_robin_15 (by decide) ?_
    have J18 : ∀ (fl : Nat) (v2 : Int32) (v3 : Int32) (v4 : Int32) (H : Heap) (locs : List Loc) (hP : Pw G σ H) (hS : va_S (AG G) s.heap H locs) (ls : Array Slot) (hl : lv_has ls 7 [(0, .ref (gA G 0)), (1, .int x1), (2, .int v2), (3, .int v3), (4, .int v4)]) (hF : f_X8_robin_18 x1 σ fl v2 v3 v4 = some o), W p l e (headSpec wsX8_robin ({ frames := 3, cells := 0, slots := 0, locals := 64 })).room s m ([.ref (gA G 0), .int x1] : List Value).toArray below meth c H locs 0 0 (MQ below (qR G (some (.int o)) σ) ([.ref (gA G 0), .int x1] : List Value).toArray s 0 0 (AG G)) (F0 m 18 ls []) := by
      intro fl18
      induction fl18 with
      | zero => intro v2 v3 v4 H locs hP hS ls hl hF; cases hF
      | succ fl18 ih18 =>
        intro v2 v3 v4 H locs hP hS ls hl hF
        rw [f_X8_robin_18_s] at hF
        refine lv_iload hx hb dX8_robin_18 (lv_at hl 4 rfl) ?_
        refine lv_aload_n hx hb dX8_robin_20 rfl (lv_at hl 0 rfl) ?_
        refine va_get (ci := 4) (C := RX8) (T := TX8) (N := 7) (v := .ref (gA G 21)) hx hb hts inX8 hown hK.1 hP 0 (at_4 rfl) rfl 2 (by decide) w1 (fun _ h9 => h9) rfl dX8_robin_21 ?_
        refine va_getN (ci := 3) (C := RX7) (T := TX7) (N := 4) (v := .int (σ 21 2)) hx hb hts inX7 hown hK.1 hP 21 (at_3 (rfl : kd 21 = 3)) rfl 2 (by decide) w2 (fun _ h9 => h9) rfl dX8_robin_24 ?_
        refine lv_icmp_ge (tgt := 91) hx hb dX8_robin_27 (by decide) (fun c2 => ?_) (fun c2 => ?_)
        · have hF := ite_t c2 hF
          refine lv_iload_n hx hb dX8_robin_91 rfl (lv_at hl 2 rfl) ?_
          exact e_iP hx hb hr hP hS hlocks dX8_robin_92 hF
        · have hF := ite_f c2 hF
          refine lv_aload_n hx hb dX8_robin_30 rfl (lv_at hl 0 rfl) ?_
          refine va_get (ci := 4) (C := RX8) (T := TX8) (N := 7) (v := .ref (gA G 21)) hx hb hts inX8 hown hK.1 hP 0 (at_4 rfl) rfl 2 (by decide) w1 (fun _ h9 => h9) rfl dX8_robin_31 ?_
          refine lv_iload hx hb dX8_robin_34 (lv_at hl 4 rfl) ?_
          obtain ⟨q3, h4, hF⟩ := ob_some hF
          refine k_VNv (As := [.int v4]) (rest := []) Z hK hP hS (t_X7_toldAt l G hG 21 v4 (rfl : kd 21 = 3) σ _ h4) ⟨va_cnB 1 hts gX8_robin_X7_toldAt_n225 rfl rfl rfl w4n w3 (by decide +kernel) ⟨Nat.le_of_ble_eq_true rfl, Nat.le_of_ble_eq_true rfl⟩, w5, w6⟩ (at_3 (rfl : kd 21 = 3)) rfl rfl hl.1 rfl (Nat.le_of_ble_eq_true rfl) ⟨Nat.zero_le _, Nat.zero_le _⟩ dX8_robin_36 (fun H locs hP hS => ?_)
          rcases q3 with _ | i5
          · have hF := oc_n hF
            refine W.eq (g2 := F0 m 39 ls [.null]) rfl ?_
            refine lv_astoreN (lv' := [(5, .null), (0, .ref (gA G 0)), (1, .int x1), (2, .int v2), (3, .int v3), (4, .int v4)]) hx hb dX8_robin_39 hl (by decide) rfl (fun ls hl => ?_)
            refine lv_aloadN hx hb dX8_robin_41 (lv_at hl 0 rfl) ?_
            have J71 : ∀ (v2 : Int32) (v3 : Int32) (v4 : Int32) (z0 : Int32) (H : Heap) (locs : List Loc) (hP : Pw G σ H) (hS : va_S (AG G) s.heap H locs) (ls : Array Slot) (hl : lv_has ls 7 [(0, .ref (gA G 0)), (1, .int x1), (2, .int v2), (3, .int v3), (4, .int v4)]) (hF : f_X8_robin_71 x1 σ (f_X8_robin_18 x1 σ fl18) v2 v3 v4 z0 = some o), W p l e (headSpec wsX8_robin ({ frames := 3, cells := 0, slots := 0, locals := 64 })).room s m ([.ref (gA G 0), .int x1] : List Value).toArray below meth c H locs 0 0 (MQ below (qR G (some (.int o)) σ) ([.ref (gA G 0), .int x1] : List Value).toArray s 0 0 (AG G)) (F0 m 71 ls [.int z0]) := by
              intro v2 v3 v4 z0 H locs hP hS ls hl hF
              rw [f_X8_robin_71_e] at hF
              refine lv_istore (lv' := [(6, .int z0), (0, .ref (gA G 0)), (1, .int x1), (2, .int v2), (3, .int v3), (4, .int v4)]) hx hb dX8_robin_71 hl (by decide) rfl (fun ls hl => ?_)
              refine lv_iload hx hb dX8_robin_73 (lv_at hl 0 rfl) ?_
              refine lv_iload_n hx hb dX8_robin_75 rfl (lv_at hl 4 rfl) ?_
              have J85 : ∀ (v2 : Int32) (v3 : Int32) (v4 : Int32) (H : Heap) (locs : List Loc) (hP : Pw G σ H) (hS : va_S (AG G) s.heap H locs) (ls : Array Slot) (hl : lv_has ls 7 [(0, .ref (gA G 0)), (1, .int x1), (2, .int v2), (3, .int v3), (4, .int v4)]) (hF : f_X8_robin_85 x1 σ (f_X8_robin_18 x1 σ fl18) v2 v3 v4 = some o), W p l e (headSpec wsX8_robin ({ frames := 3, cells := 0, slots := 0, locals := 64 })).room s m ([.ref (gA G 0), .int x1] : List Value).toArray below meth c H locs 0 0 (MQ below (qR G (some (.int o)) σ) ([.ref (gA G 0), .int x1] : List Value).toArray s 0 0 (AG G)) (F0 m 85 ls []) := by
                intro v2 v3 v4 H locs hP hS ls hl hF
                rw [f_X8_robin_85_e] at hF
                refine lv_iinc (v := (v4 + (1 : Int32))) (lv' := [(4, .int (v4 + (1 : Int32))), (0, .ref (gA G 0)), (1, .int x1), (2, .int v2), (3, .int v3)]) hx hb dX8_robin_85 hl (k := 4) rfl rfl (by decide) rfl (fun ls hl => ?_)
                refine lv_goto (tgt := 18) hx hb dX8_robin_88 (by decide) ?_
                exact ih18 v2 v3 (v4 + (1 : Int32)) _ _ hP hS ls (lv_sub hl [1, 2, 3, 4, 0] rfl) hF
              refine lv_icmp_le (tgt := 85) hx hb dX8_robin_76 (by decide) (fun c6 => ?_) (fun c6 => ?_)
              · have hF := ite_t c6 hF
                exact J85 v2 v3 v4 _ _ hP hS ls (lv_sub hl [1, 2, 3, 4, 5] rfl) hF
              · have hF := ite_f c6 hF
                refine lv_iload hx hb dX8_robin_79 (lv_at hl 0 rfl) ?_
                refine lv_istore_n (lv' := [(3, .int z0), (6, .int z0), (0, .ref (gA G 0)), (1, .int x1), (2, .int v2), (4, .int v4)]) hx hb dX8_robin_81 rfl hl (by decide) rfl (fun ls hl => ?_)
                refine lv_iload hx hb dX8_robin_82 (lv_at hl 5 rfl) ?_
                refine lv_istore_n (lv' := [(2, .int v4), (3, .int z0), (6, .int z0), (0, .ref (gA G 0)), (1, .int x1), (4, .int v4)]) hx hb dX8_robin_84 rfl hl (by decide) rfl (fun ls hl => ?_)
                exact J85 v4 z0 v4 _ _ hP hS ls (lv_sub hl [3, 4, 0, 1, 5] rfl) hF
            have J70 : ∀ (v2 : Int32) (v3 : Int32) (v4 : Int32) (H : Heap) (locs : List Loc) (hP : Pw G σ H) (hS : va_S (AG G) s.heap H locs) (ls : Array Slot) (hl : lv_has ls 7 [(0, .ref (gA G 0)), (1, .int x1), (2, .int v2), (3, .int v3), (4, .int v4)]) (hF : f_X8_robin_70 x1 σ (f_X8_robin_18 x1 σ fl18) v2 v3 v4 = some o), W p l e (headSpec wsX8_robin ({ frames := 3, cells := 0, slots := 0, locals := 64 })).room s m ([.ref (gA G 0), .int x1] : List Value).toArray below meth c H locs 0 0 (MQ below (qR G (some (.int o)) σ) ([.ref (gA G 0), .int x1] : List Value).toArray s 0 0 (AG G)) (F0 m 70 ls []) := by
              intro v2 v3 v4 H locs hP hS ls hl hF
              rw [f_X8_robin_70_e] at hF
              refine lv_iconst (v := 0) hx hb dX8_robin_70 (by decide) ?_
              exact J71 v2 v3 v4 (0 : Int32) _ _ hP hS ls (lv_sub hl [0, 1, 2, 3, 4] rfl) hF
            refine lv_ifnullN (tgt := 70) hx hb dX8_robin_43 (by decide) ?_
            exact J70 v2 v3 v4 _ _ hP hS ls (lv_sub hl [1, 2, 3, 4, 5] rfl) hF
          · have hF := oc_s hF
            have ki5 : kd i5 = 1 := q_X7_toldAt (rfl : kd 21 = 3) h4
            refine W.eq (g2 := F0 m 39 ls [.ref (gA G i5)]) rfl ?_
            refine lv_astore (lv' := [(5, .ref (gA G i5)), (0, .ref (gA G 0)), (1, .int x1), (2, .int v2), (3, .int v3), (4, .int v4)]) hx hb dX8_robin_39 hl (by decide) rfl (fun ls hl => ?_)
            refine lv_aload hx hb dX8_robin_41 (lv_at hl 0 rfl) ?_
            have J71 : ∀ (v2 : Int32) (v3 : Int32) (v4 : Int32) (z0 : Int32) (H : Heap) (locs : List Loc) (hP : Pw G σ H) (hS : va_S (AG G) s.heap H locs) (ls : Array Slot) (hl : lv_has ls 7 [(0, .ref (gA G 0)), (1, .int x1), (2, .int v2), (3, .int v3), (4, .int v4)]) (hF : f_X8_robin_71 x1 σ (f_X8_robin_18 x1 σ fl18) v2 v3 v4 z0 = some o), W p l e (headSpec wsX8_robin ({ frames := 3, cells := 0, slots := 0, locals := 64 })).room s m ([.ref (gA G 0), .int x1] : List Value).toArray below meth c H locs 0 0 (MQ below (qR G (some (.int o)) σ) ([.ref (gA G 0), .int x1] : List Value).toArray s 0 0 (AG G)) (F0 m 71 ls [.int z0]) := by
              intro v2 v3 v4 z0 H locs hP hS ls hl hF
              rw [f_X8_robin_71_e] at hF
              refine lv_istore (lv' := [(6, .int z0), (0, .ref (gA G 0)), (1, .int x1), (2, .int v2), (3, .int v3), (4, .int v4)]) hx hb dX8_robin_71 hl (by decide) rfl (fun ls hl => ?_)
              refine lv_iload hx hb dX8_robin_73 (lv_at hl 0 rfl) ?_
              refine lv_iload_n hx hb dX8_robin_75 rfl (lv_at hl 4 rfl) ?_
              have J85 : ∀ (v2 : Int32) (v3 : Int32) (v4 : Int32) (H : Heap) (locs : List Loc) (hP : Pw G σ H) (hS : va_S (AG G) s.heap H locs) (ls : Array Slot) (hl : lv_has ls 7 [(0, .ref (gA G 0)), (1, .int x1), (2, .int v2), (3, .int v3), (4, .int v4)]) (hF : f_X8_robin_85 x1 σ (f_X8_robin_18 x1 σ fl18) v2 v3 v4 = some o), W p l e (headSpec wsX8_robin ({ frames := 3, cells := 0, slots := 0, locals := 64 })).room s m ([.ref (gA G 0), .int x1] : List Value).toArray below meth c H locs 0 0 (MQ below (qR G (some (.int o)) σ) ([.ref (gA G 0), .int x1] : List Value).toArray s 0 0 (AG G)) (F0 m 85 ls []) := by
                intro v2 v3 v4 H locs hP hS ls hl hF
                rw [f_X8_robin_85_e] at hF
                refine lv_iinc (v := (v4 + (1 : Int32))) (lv' := [(4, .int (v4 + (1 : Int32))), (0, .ref (gA G 0)), (1, .int x1), (2, .int v2), (3, .int v3)]) hx hb dX8_robin_85 hl (k := 4) rfl rfl (by decide) rfl (fun ls hl => ?_)
                refine lv_goto (tgt := 18) hx hb dX8_robin_88 (by decide) ?_
                exact ih18 v2 v3 (v4 + (1 : Int32)) _ _ hP hS ls (lv_sub hl [1, 2, 3, 4, 0] rfl) hF
              refine lv_icmp_le (tgt := 85) hx hb dX8_robin_76 (by decide) (fun c7 => ?_) (fun c7 => ?_)
              · have hF := ite_t c7 hF
                exact J85 v2 v3 v4 _ _ hP hS ls (lv_sub hl [1, 2, 3, 4, 5] rfl) hF
              · have hF := ite_f c7 hF
                refine lv_iload hx hb dX8_robin_79 (lv_at hl 0 rfl) ?_
                refine lv_istore_n (lv' := [(3, .int z0), (6, .int z0), (0, .ref (gA G 0)), (1, .int x1), (2, .int v2), (4, .int v4)]) hx hb dX8_robin_81 rfl hl (by decide) rfl (fun ls hl => ?_)
                refine lv_iload hx hb dX8_robin_82 (lv_at hl 5 rfl) ?_
                refine lv_istore_n (lv' := [(2, .int v4), (3, .int z0), (6, .int z0), (0, .ref (gA G 0)), (1, .int x1), (4, .int v4)]) hx hb dX8_robin_84 rfl hl (by decide) rfl (fun ls hl => ?_)
                exact J85 v4 z0 v4 _ _ hP hS ls (lv_sub hl [3, 4, 0, 1, 5] rfl) hF
            have J70 : ∀ (v2 : Int32) (v3 : Int32) (v4 : Int32) (H : Heap) (locs : List Loc) (hP : Pw G σ H) (hS : va_S (AG G) s.heap H locs) (ls : Array Slot) (hl : lv_has ls 7 [(0, .ref (gA G 0)), (1, .int x1), (2, .int v2), (3, .int v3), (4, .int v4)]) (hF : f_X8_robin_70 x1 σ (f_X8_robin_18 x1 σ fl18) v2 v3 v4 = some o), W p l e (headSpec wsX8_robin ({ frames := 3, cells := 0, slots := 0, locals := 64 })).room s m ([.ref (gA G 0), .int x1] : List Value).toArray below meth c H locs 0 0 (MQ below (qR G (some (.int o)) σ) ([.ref (gA G 0), .int x1] : List Value).toArray s 0 0 (AG G)) (F0 m 70 ls []) := by
              intro v2 v3 v4 H locs hP hS ls hl hF
              rw [f_X8_robin_70_e] at hF
              refine lv_iconst (v := 0) hx hb dX8_robin_70 (by decide) ?_
              exact J71 v2 v3 v4 (0 : Int32) _ _ hP hS ls (lv_sub hl [0, 1, 2, 3, 4] rfl) hF
            refine lv_ifnull hx hb dX8_robin_43 ?_
            refine lv_aload hx hb dX8_robin_46 (lv_at hl 0 rfl) ?_
            refine va_getN (ci := 1) (C := RX1) (T := TX1) (N := 7) (v := .int (σ i5 3)) hx hb hts inX1 hown hK.1 hP i5 (at_1 ki5) rfl 3 (by decide) w7 (fun _ h9 => h9) rfl dX8_robin_48 ?_
            refine lv_iload_n hx hb dX8_robin_51 rfl (lv_at hl 2 rfl) ?_
            refine lv_icmp_ne (tgt := 70) hx hb dX8_robin_52 (by decide) (fun c8 => ?_) (fun c8 => ?_)
            · have hF := ite_f c8 hF
              exact J70 v2 v3 v4 _ _ hP hS ls (lv_sub hl [1, 2, 3, 4, 5] rfl) hF
            · have hF := ite_t c8 hF
              refine lv_aload hx hb dX8_robin_55 (lv_at hl 0 rfl) ?_
              refine lv_aload_n hx hb dX8_robin_57 rfl (lv_at hl 1 rfl) ?_
              refine va_get (ci := 4) (C := RX8) (T := TX8) (N := 7) (v := .ref (gA G 21)) hx hb hts inX8 hown hK.1 hP 0 (at_4 rfl) rfl 2 (by decide) w1 (fun _ h9 => h9) rfl dX8_robin_58 ?_
              refine va_getN (ci := 3) (C := RX7) (T := TX7) (N := 4) (v := .int (σ 21 3)) hx hb hts inX7 hown hK.1 hP 21 (at_3 (rfl : kd 21 = 3)) rfl 3 (by decide) w8 (fun _ h9 => h9) rfl dX8_robin_61 ?_
              refine k_VNv (As := [.int (σ 21 3)]) (rest := []) Z hK hP hS (t_X1_watchersLost l G hG i5 (σ 21 3) ki5 σ) ⟨va_cnB 1 hts gX8_robin_X1_watchersLost_n228 rfl rfl rfl w10n w9 (by decide +kernel) ⟨Nat.le_of_ble_eq_true rfl, Nat.le_of_ble_eq_true rfl⟩, w11, w12⟩ (at_1 ki5) rfl rfl hl.1 rfl (Nat.le_of_ble_eq_true rfl) ⟨Nat.zero_le _, Nat.zero_le _⟩ dX8_robin_64 (fun H locs hP hS => ?_)
              refine lv_goto (tgt := 71) hx hb dX8_robin_67 (by decide) ?_
              exact J71 v2 v3 v4 (f_X1_watchersLost i5 (σ 21 3) σ) _ _ hP hS ls (lv_sub hl [1, 2, 3, 4, 5] rfl) hF
    refine lv_istore (lv' := [(4, .int (0 : Int32)), (3, .int (0 : Int32)), (2, .int (-4 : Int32)), (0, .ref (gA G 0)), (1, .int x1)]) hx hb dX8_robin_16 hl (by decide) rfl (fun ls hl => ?_)
    exact J18 fu (-4 : Int32) (0 : Int32) (0 : Int32) _ _ hP hS ls (lv_sub hl [3, 4, 2, 1, 0] rfl) hF
  · have hF := ite_f (b2i_e0 c1) hF
    refine lv_iconst (v := -1) hx hb dX8_robin_8 (by decide) ?_
    exact e_iP hx hb hr hP hS hlocks dX8_robin_9 hF
def f_X8_gain_15 (x0 : Int32) (x1 : Int32) (x2 : Int32) (z0 : Int32) : Int32 := (z0 - x2)
theorem f_X8_gain_15_e {x0 : Int32} {x1 : Int32} {x2 : Int32} {z0 : Int32} : f_X8_gain_15 x0 x1 x2 z0 = (z0 - x2) := rfl
def f_X8_gain (x0 : Int32) (x1 : Int32) (x2 : Int32) : Int32 := (if x0 = 0 then ((0 : Int32)) else (if x1 = 0 then (f_X8_gain_15 x0 x1 x2 (3 : Int32)) else (f_X8_gain_15 x0 x1 x2 (1 : Int32))))
set_option maxRecDepth 100000 in
set_option maxHeartbeats 4000000 in
theorem t_X8_gain (l : Launch) (G : GT) (hG : Dw G) (x0 : Int32) (x1 : Int32) (x2 : Int32) (σ : St) : Ct l G yX8_gain wsX8_gain 0 0 [.int x0, .int x1, .int x2] σ (some (.int (f_X8_gain x0 x1 x2))) σ := by
  obtain ⟨o, hF⟩ : ∃ o, f_X8_gain x0 x1 x2 = o := ⟨_, rfl⟩
  rw [hF]
  refine Met.ofW (cc := cX8_gain) (maxL := 3) (ret := (some .int)) (by decide) rfl ?_
  intro p e s m args below meth c s₁ B hml hv
  obtain ⟨rfl, hP, hK⟩ := hv
  have hx := B.exec
  have hb := B.bytes
  have hr := B.returns
  have hts := atoms_spec (ws := wsX8_gain) B.pre
  have hown : s.vm.findClass RX8 = some m.cls := findClass_of_methodNamed B.named
  have hlocks := B.notSynchronized
  have Z : CallFix p m c cX8_gain 3 s _ wsX8_gain RX8 := ⟨hx, hb, hml, hown, hts⟩
  have hS : va_S (AG G) s.heap s.heap [] := va_S.rf
  have hl := lv_entry ([.int x0, .int x1, .int x2]) (n := 3) (Nat.le_of_ble_eq_true rfl)
  rw [lg_entry_eq]
  generalize (lg_sl ([.int x0, .int x1, .int x2]) ++ List.replicate (3 - (lg_sl ([.int x0, .int x1, .int x2])).length) Slot.unset).toArray = ls at hl ⊢
  have hl : lv_has ls 3 [(0, .int x0), (1, .int x1), (2, .int x2)] := hl
  unfold f_X8_gain at hF
  refine lv_iload_n hx hb dX8_gain_0 rfl (lv_at hl 0 rfl) ?_
  refine lv_if_ne (tgt := 6) hx hb dX8_gain_1 (by decide) (fun c1 => ?_) (fun c1 => ?_)
  · have hF := ite_f c1 hF
    refine lv_iload_n hx hb dX8_gain_6 rfl (lv_at hl 1 rfl) ?_
    have J15 : ∀ (z0 : Int32) (H : Heap) (locs : List Loc) (hP : Pw G σ H) (hS : va_S (AG G) s.heap H locs) (ls : Array Slot) (hl : lv_has ls 3 [(0, .int x0), (1, .int x1), (2, .int x2)]) (hF : f_X8_gain_15 x0 x1 x2 z0 = o), W p l e (headSpec wsX8_gain ({ frames := 0, cells := 0, slots := 0, locals := 0 })).room s m ([.int x0, .int x1, .int x2] : List Value).toArray below meth c H locs 0 0 (MQ below (qR G (some (.int o)) σ) ([.int x0, .int x1, .int x2] : List Value).toArray s 0 0 (AG G)) (F0 m 15 ls [.int z0]) := by
      intro z0 H locs hP hS ls hl hF
      rw [f_X8_gain_15_e] at hF
      refine lv_iload_n hx hb dX8_gain_15 rfl (lv_at hl 2 rfl) ?_
      refine lv_isub hx hb dX8_gain_16 ?_
      exact e_iT hx hb hr hP hS hlocks dX8_gain_17 hF
    refine lv_if_ne (tgt := 14) hx hb dX8_gain_7 (by decide) (fun c2 => ?_) (fun c2 => ?_)
    · have hF := ite_f c2 hF
      refine lv_iconst (v := 1) hx hb dX8_gain_14 (by decide) ?_
      exact J15 (1 : Int32) _ _ hP hS ls (lv_sub hl [0, 1, 2] rfl) hF
    · have hF := ite_t c2 hF
      refine lv_iconst (v := 3) hx hb dX8_gain_10 (by decide) ?_
      refine lv_goto (tgt := 15) hx hb dX8_gain_11 (by decide) ?_
      exact J15 (3 : Int32) _ _ hP hS ls (lv_sub hl [0, 1, 2] rfl) hF
  · have hF := ite_t c1 hF
    refine lv_iconst (v := 0) hx hb dX8_gain_4 (by decide) ?_
    exact e_iT hx hb hr hP hS hlocks dX8_gain_5 hF
def f_X8_isContent (x0 : Int32) (x1 : Int32) (x2 : Int32) : Bool := (if (f_X8_gain x0 x1 x2) < (f_X8_gain ((1 : Int32) - x0) x1 x2) then false else true)
set_option maxRecDepth 100000 in
set_option maxHeartbeats 4000000 in
theorem t_X8_isContent (l : Launch) (G : GT) (hG : Dw G) (x0 : Int32) (x1 : Int32) (x2 : Int32) (σ : St) : Ct l G yX8_isContent wsX8_isContent 1 22 [.int x0, .int x1, .int x2] σ (some (.int (b2i (f_X8_isContent x0 x1 x2)))) σ := by
  obtain ⟨o, hF⟩ : ∃ o, f_X8_isContent x0 x1 x2 = o := ⟨_, rfl⟩
  rw [hF]
  refine Met.ofW (cc := cX8_isContent) (maxL := 3) (ret := (some .boolean)) (by decide) rfl ?_
  intro p e s m args below meth c s₁ B hml hv
  obtain ⟨rfl, hP, hK⟩ := hv
  have hx := B.exec
  have hb := B.bytes
  have hr := B.returns
  have hts := atoms_spec (ws := wsX8_isContent) B.pre
  have hown : s.vm.findClass RX8 = some m.cls := findClass_of_methodNamed B.named
  have hlocks := B.notSynchronized
  have Z : CallFix p m c cX8_isContent 3 s _ wsX8_isContent RX8 := ⟨hx, hb, hml, hown, hts⟩
  have hS : va_S (AG G) s.heap s.heap [] := va_S.rf
  have hl := lv_entry ([.int x0, .int x1, .int x2]) (n := 3) (Nat.le_of_ble_eq_true rfl)
  rw [lg_entry_eq]
  generalize (lg_sl ([.int x0, .int x1, .int x2]) ++ List.replicate (3 - (lg_sl ([.int x0, .int x1, .int x2])).length) Slot.unset).toArray = ls at hl ⊢
  have hl : lv_has ls 3 [(0, .int x0), (1, .int x1), (2, .int x2)] := hl
  unfold f_X8_isContent at hF
  refine lv_iconst (v := 1) hx hb dX8_isContent_0 (by decide) ?_
  refine lv_iload_n hx hb dX8_isContent_1 rfl (lv_at hl 0 rfl) ?_
  refine lv_isub hx hb dX8_isContent_2 ?_
  refine lv_iload_n hx hb dX8_isContent_3 rfl (lv_at hl 1 rfl) ?_
  refine lv_iload_n hx hb dX8_isContent_4 rfl (lv_at hl 2 rfl) ?_
  refine k_Sv (As := [.int ((1 : Int32) - x0), .int x1, .int x2]) (rest := []) Z hK hP hS (t_X8_gain l G hG ((1 : Int32) - x0) x1 x2 σ) (va_cwS 3 hts gX8_isContent_X8_gain rfl rfl rfl (by decide +kernel) ⟨Nat.le_of_ble_eq_true rfl, Nat.le_of_ble_eq_true rfl⟩) rfl hl.1 rfl (Nat.le_of_ble_eq_true rfl) ⟨Nat.zero_le _, Nat.zero_le _⟩ dX8_isContent_5 (fun H locs hP hS => ?_)
  refine lv_iload_n hx hb dX8_isContent_8 rfl (lv_at hl 0 rfl) ?_
  refine lv_iload_n hx hb dX8_isContent_9 rfl (lv_at hl 1 rfl) ?_
  refine lv_iload_n hx hb dX8_isContent_10 rfl (lv_at hl 2 rfl) ?_
  refine k_Sv (As := [.int x0, .int x1, .int x2]) (rest := [.int (f_X8_gain ((1 : Int32) - x0) x1 x2)]) Z hK hP hS (t_X8_gain l G hG x0 x1 x2 σ) (va_cwS 3 hts gX8_isContent_X8_gain rfl rfl rfl (by decide +kernel) ⟨Nat.le_of_ble_eq_true rfl, Nat.le_of_ble_eq_true rfl⟩) rfl hl.1 rfl (Nat.le_of_ble_eq_true rfl) ⟨Nat.zero_le _, Nat.zero_le _⟩ dX8_isContent_11 (fun H locs hP hS => ?_)
  refine lv_icmp_gt (tgt := 21) hx hb dX8_isContent_14 (by decide) (fun c1 => ?_) (fun c1 => ?_)
  · have hF := ite_t c1 hF
    refine lv_iconst (v := 0) hx hb dX8_isContent_21 (by decide) ?_
    exact e_zT (b := false) hx hb hr hP hS hlocks dX8_isContent_22 rfl hF
  · have hF := ite_f c1 hF
    refine lv_iconst (v := 1) hx hb dX8_isContent_17 (by decide) ?_
    refine lv_goto (tgt := 22) hx hb dX8_isContent_18 (by decide) ?_
    exact e_zT (b := true) hx hb hr hP hS hlocks dX8_isContent_22 rfl hF
def f_X8_two_98 (x1 : Int32) (x2 : Int32) (σ : St) (rec48 : Int32 → Int32 → Int32 → Option Int32) (v3 : Int32) (v4 : Int32) (v5 : Int32) : Option Int32 := (rec48 v3 v4 (v5 + (1 : Int32)))
theorem f_X8_two_98_e {x1 : Int32} {x2 : Int32} {σ : St} {rec48 : Int32 → Int32 → Int32 → Option Int32} {v3 : Int32} {v4 : Int32} {v5 : Int32} : f_X8_two_98 x1 x2 σ rec48 v3 v4 v5 = (rec48 v3 v4 (v5 + (1 : Int32))) := rfl
def f_X8_two_48 (x1 : Int32) (x2 : Int32) (σ : St) : Nat → (Int32 → Int32 → Int32 → Option Int32)
  | 0 => fun _ _ _ => none
  | fl + 1 => fun v3 v4 v5 => (if (4 : Int32) ≤ v5 then (some (-4 : Int32)) else (if (f_X8_isContent (v5 / (2 : Int32)) (v5 - v5 / (2 : Int32) * (2 : Int32)) v3) = true then (if (f_X8_isContent (v5 - v5 / (2 : Int32) * (2 : Int32)) (v5 / (2 : Int32)) v4) = true then (some (((10 : Int32) * (v5 / (2 : Int32))) + (v5 - v5 / (2 : Int32) * (2 : Int32)))) else f_X8_two_98 x1 x2 σ (f_X8_two_48 x1 x2 σ fl) v3 v4 v5) else f_X8_two_98 x1 x2 σ (f_X8_two_48 x1 x2 σ fl) v3 v4 v5))
theorem f_X8_two_48_s {x1 : Int32} {x2 : Int32} {σ : St} (fl : Nat) {v3 : Int32} {v4 : Int32} {v5 : Int32} : f_X8_two_48 x1 x2 σ (fl + 1) v3 v4 v5 = (if (4 : Int32) ≤ v5 then (some (-4 : Int32)) else (if (f_X8_isContent (v5 / (2 : Int32)) (v5 - v5 / (2 : Int32) * (2 : Int32)) v3) = true then (if (f_X8_isContent (v5 - v5 / (2 : Int32) * (2 : Int32)) (v5 / (2 : Int32)) v4) = true then (some (((10 : Int32) * (v5 / (2 : Int32))) + (v5 - v5 / (2 : Int32) * (2 : Int32)))) else f_X8_two_98 x1 x2 σ (f_X8_two_48 x1 x2 σ fl) v3 v4 v5) else f_X8_two_98 x1 x2 σ (f_X8_two_48 x1 x2 σ fl) v3 v4 v5)) := rfl
def f_X8_two (x1 : Int32) (x2 : Int32) (σ : St) : Option Int32 := (if (f_X8_isBelow x1 (80 : Int32)) = true then (if (f_X8_isBelow x2 (80 : Int32)) = true then (f_X8_two_48 x1 x2 σ fu (f_X4_burden (x1 / (10 : Int32)) (x1 - x1 / (10 : Int32) * (10 : Int32))) (f_X4_burden (x2 / (10 : Int32)) (x2 - x2 / (10 : Int32) * (10 : Int32))) (0 : Int32)) else (some (-1 : Int32))) else (some (-1 : Int32)))
set_option maxRecDepth 100000 in
set_option maxHeartbeats 4000000 in
theorem t_X8_two (l : Launch) (G : GT) (hG : Dw G) (x1 : Int32) (x2 : Int32) (σ : St) (o : Int32) (hF : f_X8_two x1 x2 σ = some o) : Ct l G yX8_two wsX8_two 2 44 [.ref (gA G 0), .int x1, .int x2] σ (some (.int o)) σ := by
  refine Met.ofW (cc := cX8_two) (maxL := 8) (ret := (some .int)) (by decide) rfl ?_
  intro p e s m args below meth c s₁ B hml hv
  obtain ⟨rfl, hP, hK⟩ := hv
  have hx := B.exec
  have hb := B.bytes
  have hr := B.returns
  have hts := atoms_spec (ws := wsX8_two) B.pre
  have hown : s.vm.findClass RX8 = some m.cls := findClass_of_methodNamed B.named
  have hlocks := B.notSynchronized
  have Z : CallFix p m c cX8_two 8 s _ wsX8_two RX8 := ⟨hx, hb, hml, hown, hts⟩
  have hS : va_S (AG G) s.heap s.heap [] := va_S.rf
  have w1 := hts (.initialized RX4) (by decide +kernel)
  have w2n : va_Nw (.methodLinkNest "AlmanacOfTheYearGone" 231 ⟨"AlmanacOfTheYearGone$Law", "burden", "(II)I"⟩ "AlmanacOfTheYearGone") s := hK.2 _ (List.mem_of_getElem? (i := 99) rfl)
  have w2 := va_Nw.use (A := [.ref (gA G 0), .int x1, .int x2].toArray) rfl w2n
  have w3 := hts (.static yX4_burden) (by decide +kernel)
  have hl := lv_entry ([.ref (gA G 0), .int x1, .int x2]) (n := 8) (Nat.le_of_ble_eq_true rfl)
  rw [lg_entry_eq]
  generalize (lg_sl ([.ref (gA G 0), .int x1, .int x2]) ++ List.replicate (8 - (lg_sl ([.ref (gA G 0), .int x1, .int x2])).length) Slot.unset).toArray = ls at hl ⊢
  have hl : lv_has ls 8 [(0, .ref (gA G 0)), (1, .int x1), (2, .int x2)] := hl
  unfold f_X8_two at hF
  refine lv_iload_n hx hb dX8_two_0 rfl (lv_at hl 1 rfl) ?_
  refine lv_bipush (v := 80) hx hb dX8_two_1 (by decide) ?_
  refine k_Sv (As := [.int x1, .int (80 : Int32)]) (rest := []) Z hK hP hS (t_X8_isBelow l G hG x1 (80 : Int32) σ) (va_cwS 2 hts gX8_two_X8_isBelow rfl rfl rfl (by decide +kernel) ⟨Nat.le_of_ble_eq_true rfl, Nat.le_of_ble_eq_true rfl⟩) rfl hl.1 rfl (Nat.le_of_ble_eq_true rfl) ⟨Nat.zero_le _, Nat.zero_le _⟩ dX8_two_3 (fun H locs hP hS => ?_)
  refine lv_if_eq (tgt := 18) hx hb dX8_two_6 (by decide) (fun c1 => ?_) (fun c1 => ?_)
  · have hF := ite_f (b2i_e0 c1) hF
    refine lv_iconst (v := -1) hx hb dX8_two_18 (by decide) ?_
    exact e_iP hx hb hr hP hS hlocks dX8_two_19 hF
  · have hF := ite_t (b2i_n0 c1) hF
    refine lv_iload_n hx hb dX8_two_9 rfl (lv_at hl 2 rfl) ?_
    refine lv_bipush (v := 80) hx hb dX8_two_10 (by decide) ?_
    refine k_Sv (As := [.int x2, .int (80 : Int32)]) (rest := []) Z hK hP hS (t_X8_isBelow l G hG x2 (80 : Int32) σ) (va_cwS 2 hts gX8_two_X8_isBelow rfl rfl rfl (by decide +kernel) ⟨Nat.le_of_ble_eq_true rfl, Nat.le_of_ble_eq_true rfl⟩) rfl hl.1 rfl (Nat.le_of_ble_eq_true rfl) ⟨Nat.zero_le _, Nat.zero_le _⟩ dX8_two_12 (fun H locs hP hS => ?_)
    refine lv_if_ne (tgt := 20) hx hb dX8_two_15 (by decide) (fun c2 => ?_) (fun c2 => ?_)
    · have hF := ite_t (b2i_n0 c2) hF
      refine lv_iload_n hx hb dX8_two_20 rfl (lv_at hl 1 rfl) ?_
      refine lv_bipush (v := 10) hx hb dX8_two_21 (by decide) ?_
      refine lv_idiv hx hb dX8_two_23 (by decide) ?_
      refine lv_iload_n hx hb dX8_two_24 rfl (lv_at hl 1 rfl) ?_
      refine lv_bipush (v := 10) hx hb dX8_two_25 (by decide) ?_
      refine lv_irem hx hb dX8_two_27 (by decide) ?_
      refine k_SNv (As := [.int (x1 / (10 : Int32)), .int (x1 - x1 / (10 : Int32) * (10 : Int32))]) (rest := []) Z hK hP hS (t_X4_burden l G hG (x1 / (10 : Int32)) (x1 - x1 / (10 : Int32) * (10 : Int32)) σ) ⟨va_cnB 2 hts gX8_two_X4_burden_n231 rfl rfl rfl w2n w1 (by decide +kernel) ⟨Nat.le_of_ble_eq_true rfl, Nat.le_of_ble_eq_true rfl⟩, w3, trivial⟩ rfl hl.1 rfl (Nat.le_of_ble_eq_true rfl) ⟨Nat.zero_le _, Nat.zero_le _⟩ dX8_two_28 (fun H locs hP hS => ?_)
      refine lv_istore_n (lv' := [(3, .int (f_X4_burden (x1 / (10 : Int32)) (x1 - x1 / (10 : Int32) * (10 : Int32)))), (0, .ref (gA G 0)), (1, .int x1), (2, .int x2)]) hx hb dX8_two_31 rfl hl (by decide) rfl (fun ls hl => ?_)
      refine lv_iload_n hx hb dX8_two_32 rfl (lv_at hl 3 rfl) ?_
      refine lv_bipush (v := 10) hx hb dX8_two_33 (by decide) ?_
      refine lv_idiv hx hb dX8_two_35 (by decide) ?_
      refine lv_iload_n hx hb dX8_two_36 rfl (lv_at hl 3 rfl) ?_
      refine lv_bipush (v := 10) hx hb dX8_two_37 (by decide) ?_
      refine lv_irem hx hb dX8_two_39 (by decide) ?_
      refine k_SNv (As := [.int (x2 / (10 : Int32)), .int (x2 - x2 / (10 : Int32) * (10 : Int32))]) (rest := []) Z hK hP hS (t_X4_burden l G hG (x2 / (10 : Int32)) (x2 - x2 / (10 : Int32) * (10 : Int32)) σ) ⟨va_cnB 2 hts gX8_two_X4_burden_n231 rfl rfl rfl w2n w1 (by decide +kernel) ⟨Nat.le_of_ble_eq_true rfl, Nat.le_of_ble_eq_true rfl⟩, w3, trivial⟩ rfl hl.1 rfl (Nat.le_of_ble_eq_true rfl) ⟨Nat.zero_le _, Nat.zero_le _⟩ dX8_two_40 (fun H locs hP hS => ?_)
      refine lv_istore (lv' := [(4, .int (f_X4_burden (x2 / (10 : Int32)) (x2 - x2 / (10 : Int32) * (10 : Int32)))), (3, .int (f_X4_burden (x1 / (10 : Int32)) (x1 - x1 / (10 : Int32) * (10 : Int32)))), (0, .ref (gA G 0)), (1, .int x1), (2, .int x2)]) hx hb dX8_two_43 hl (by decide) rfl (fun ls hl => ?_)
      refine lv_iconst (v := 0) hx hb dX8_two_45 (by decide) ?_
      have J48 : ∀ (fl : Nat) (v3 : Int32) (v4 : Int32) (v5 : Int32) (H : Heap) (locs : List Loc) (hP : Pw G σ H) (hS : va_S (AG G) s.heap H locs) (ls : Array Slot) (hl : lv_has ls 8 [(0, .ref (gA G 0)), (1, .int x1), (2, .int x2), (3, .int v3), (4, .int v4), (5, .int v5)]) (hF : f_X8_two_48 x1 x2 σ fl v3 v4 v5 = some o), W p l e (headSpec wsX8_two ({ frames := 2, cells := 0, slots := 0, locals := 44 })).room s m ([.ref (gA G 0), .int x1, .int x2] : List Value).toArray below meth c H locs 0 0 (MQ below (qR G (some (.int o)) σ) ([.ref (gA G 0), .int x1, .int x2] : List Value).toArray s 0 0 (AG G)) (F0 m 48 ls []) := by
        intro fl48
        induction fl48 with
        | zero => intro v3 v4 v5 H locs hP hS ls hl hF; cases hF
        | succ fl48 ih48 =>
          intro v3 v4 v5 H locs hP hS ls hl hF
          rw [f_X8_two_48_s] at hF
          refine lv_iload hx hb dX8_two_48 (lv_at hl 5 rfl) ?_
          refine lv_iconst (v := 4) hx hb dX8_two_50 (by decide) ?_
          refine lv_icmp_ge (tgt := 104) hx hb dX8_two_51 (by decide) (fun c3 => ?_) (fun c3 => ?_)
          · have hF := ite_t c3 hF
            refine lv_bipush (v := -4) hx hb dX8_two_104 (by decide) ?_
            exact e_iP hx hb hr hP hS hlocks dX8_two_106 hF
          · have hF := ite_f c3 hF
            refine lv_iload hx hb dX8_two_54 (lv_at hl 5 rfl) ?_
            refine lv_iconst (v := 2) hx hb dX8_two_56 (by decide) ?_
            refine lv_idiv hx hb dX8_two_57 (by decide) ?_
            refine lv_istore (lv' := [(6, .int (v5 / (2 : Int32))), (0, .ref (gA G 0)), (1, .int x1), (2, .int x2), (3, .int v3), (4, .int v4), (5, .int v5)]) hx hb dX8_two_58 hl (by decide) rfl (fun ls hl => ?_)
            refine lv_iload hx hb dX8_two_60 (lv_at hl 6 rfl) ?_
            refine lv_iconst (v := 2) hx hb dX8_two_62 (by decide) ?_
            refine lv_irem hx hb dX8_two_63 (by decide) ?_
            refine lv_istore (lv' := [(7, .int (v5 - v5 / (2 : Int32) * (2 : Int32))), (6, .int (v5 / (2 : Int32))), (0, .ref (gA G 0)), (1, .int x1), (2, .int x2), (3, .int v3), (4, .int v4), (5, .int v5)]) hx hb dX8_two_64 hl (by decide) rfl (fun ls hl => ?_)
            refine lv_iload hx hb dX8_two_66 (lv_at hl 1 rfl) ?_
            refine lv_iload hx hb dX8_two_68 (lv_at hl 0 rfl) ?_
            refine lv_iload_n hx hb dX8_two_70 rfl (lv_at hl 5 rfl) ?_
            refine k_Sv (As := [.int (v5 / (2 : Int32)), .int (v5 - v5 / (2 : Int32) * (2 : Int32)), .int v3]) (rest := []) Z hK hP hS (t_X8_isContent l G hG (v5 / (2 : Int32)) (v5 - v5 / (2 : Int32) * (2 : Int32)) v3 σ) (va_cwS 3 hts gX8_two_X8_isContent rfl rfl rfl (by decide +kernel) ⟨Nat.le_of_ble_eq_true rfl, Nat.le_of_ble_eq_true rfl⟩) rfl hl.1 rfl (Nat.le_of_ble_eq_true rfl) ⟨Nat.zero_le _, Nat.zero_le _⟩ dX8_two_71 (fun H locs hP hS => ?_)
            have J98 : ∀ (v3 : Int32) (v4 : Int32) (v5 : Int32) (H : Heap) (locs : List Loc) (hP : Pw G σ H) (hS : va_S (AG G) s.heap H locs) (ls : Array Slot) (hl : lv_has ls 8 [(0, .ref (gA G 0)), (1, .int x1), (2, .int x2), (3, .int v3), (4, .int v4), (5, .int v5)]) (hF : f_X8_two_98 x1 x2 σ (f_X8_two_48 x1 x2 σ fl48) v3 v4 v5 = some o), W p l e (headSpec wsX8_two ({ frames := 2, cells := 0, slots := 0, locals := 44 })).room s m ([.ref (gA G 0), .int x1, .int x2] : List Value).toArray below meth c H locs 0 0 (MQ below (qR G (some (.int o)) σ) ([.ref (gA G 0), .int x1, .int x2] : List Value).toArray s 0 0 (AG G)) (F0 m 98 ls []) := by
              intro v3 v4 v5 H locs hP hS ls hl hF
              rw [f_X8_two_98_e] at hF
              refine lv_iinc (v := (v5 + (1 : Int32))) (lv' := [(5, .int (v5 + (1 : Int32))), (0, .ref (gA G 0)), (1, .int x1), (2, .int x2), (3, .int v3), (4, .int v4)]) hx hb dX8_two_98 hl (k := 5) rfl rfl (by decide) rfl (fun ls hl => ?_)
              refine lv_goto (tgt := 48) hx hb dX8_two_101 (by decide) ?_
              exact ih48 v3 v4 (v5 + (1 : Int32)) _ _ hP hS ls (lv_sub hl [1, 2, 3, 4, 5, 0] rfl) hF
            refine lv_if_eq (tgt := 98) hx hb dX8_two_74 (by decide) (fun c4 => ?_) (fun c4 => ?_)
            · have hF := ite_f (b2i_e0 c4) hF
              exact J98 v3 v4 v5 _ _ hP hS ls (lv_sub hl [2, 3, 4, 5, 6, 7] rfl) hF
            · have hF := ite_t (b2i_n0 c4) hF
              refine lv_iload hx hb dX8_two_77 (lv_at hl 0 rfl) ?_
              refine lv_iload hx hb dX8_two_79 (lv_at hl 1 rfl) ?_
              refine lv_iload hx hb dX8_two_81 (lv_at hl 6 rfl) ?_
              refine k_Sv (As := [.int (v5 - v5 / (2 : Int32) * (2 : Int32)), .int (v5 / (2 : Int32)), .int v4]) (rest := []) Z hK hP hS (t_X8_isContent l G hG (v5 - v5 / (2 : Int32) * (2 : Int32)) (v5 / (2 : Int32)) v4 σ) (va_cwS 3 hts gX8_two_X8_isContent rfl rfl rfl (by decide +kernel) ⟨Nat.le_of_ble_eq_true rfl, Nat.le_of_ble_eq_true rfl⟩) rfl hl.1 rfl (Nat.le_of_ble_eq_true rfl) ⟨Nat.zero_le _, Nat.zero_le _⟩ dX8_two_83 (fun H locs hP hS => ?_)
              refine lv_if_eq (tgt := 98) hx hb dX8_two_86 (by decide) (fun c5 => ?_) (fun c5 => ?_)
              · have hF := ite_f (b2i_e0 c5) hF
                exact J98 v3 v4 v5 _ _ hP hS ls (lv_sub hl [2, 3, 4, 5, 6, 7] rfl) hF
              · have hF := ite_t (b2i_n0 c5) hF
                refine lv_bipush (v := 10) hx hb dX8_two_89 (by decide) ?_
                refine lv_iload hx hb dX8_two_91 (lv_at hl 1 rfl) ?_
                refine lv_imul hx hb dX8_two_93 ?_
                refine lv_iload hx hb dX8_two_94 (lv_at hl 0 rfl) ?_
                refine lv_iadd hx hb dX8_two_96 ?_
                exact e_iP hx hb hr hP hS hlocks dX8_two_97 hF
      refine lv_istore (lv' := [(5, .int (0 : Int32)), (4, .int (f_X4_burden (x2 / (10 : Int32)) (x2 - x2 / (10 : Int32) * (10 : Int32)))), (3, .int (f_X4_burden (x1 / (10 : Int32)) (x1 - x1 / (10 : Int32) * (10 : Int32)))), (0, .ref (gA G 0)), (1, .int x1), (2, .int x2)]) hx hb dX8_two_46 hl (by decide) rfl (fun ls hl => ?_)
      exact J48 fu (f_X4_burden (x1 / (10 : Int32)) (x1 - x1 / (10 : Int32) * (10 : Int32))) (f_X4_burden (x2 / (10 : Int32)) (x2 - x2 / (10 : Int32) * (10 : Int32))) (0 : Int32) _ _ hP hS ls (lv_sub hl [3, 4, 5, 2, 1, 0] rfl) hF
    · have hF := ite_f (b2i_e0 c2) hF
      refine lv_iconst (v := -1) hx hb dX8_two_18 (by decide) ?_
      exact e_iP hx hb hr hP hS hlocks dX8_two_19 hF
def f_X8_chance_50 (x1 : Int32) (x2 : Int32) (x3 : Int32) (x4 : Int32) (σ : St) : Option Int64 := (some (1000000001 : Int64))
theorem f_X8_chance_50_e {x1 : Int32} {x2 : Int32} {x3 : Int32} {x4 : Int32} {σ : St} : f_X8_chance_50 x1 x2 x3 x4 σ  = (some (1000000001 : Int64)) := rfl
def f_X8_chance_16 (x1 : Int32) (x2 : Int32) (x3 : Int32) (x4 : Int32) (σ : St) (z0 : Int32) : Option Int64 := (if (f_X8_isWithin x1 (8 : Int32)) = true then (if z0 = 0 then f_X8_chance_50 x1 x2 x3 x4 σ else (if (f_X8_isWithin x3 (8 : Int32)) = true then (if (f_X8_isBelow x4 (2 : Int32)) = true then (ob (f_X3_waysOfSoMany x1 x2 x3 σ) (fun q5 => ob (f_X3_power x2 x1 σ) (fun q7 => ob (f_X3_inLeastTerms q5 q7 x4 σ) (fun q9 => some q9)))) else f_X8_chance_50 x1 x2 x3 x4 σ) else f_X8_chance_50 x1 x2 x3 x4 σ)) else f_X8_chance_50 x1 x2 x3 x4 σ)
theorem f_X8_chance_16_e {x1 : Int32} {x2 : Int32} {x3 : Int32} {x4 : Int32} {σ : St} {z0 : Int32} : f_X8_chance_16 x1 x2 x3 x4 σ z0 = (if (f_X8_isWithin x1 (8 : Int32)) = true then (if z0 = 0 then f_X8_chance_50 x1 x2 x3 x4 σ else (if (f_X8_isWithin x3 (8 : Int32)) = true then (if (f_X8_isBelow x4 (2 : Int32)) = true then (ob (f_X3_waysOfSoMany x1 x2 x3 σ) (fun q5 => ob (f_X3_power x2 x1 σ) (fun q7 => ob (f_X3_inLeastTerms q5 q7 x4 σ) (fun q9 => some q9)))) else f_X8_chance_50 x1 x2 x3 x4 σ) else f_X8_chance_50 x1 x2 x3 x4 σ)) else f_X8_chance_50 x1 x2 x3 x4 σ) := rfl
def f_X8_chance_15 (x1 : Int32) (x2 : Int32) (x3 : Int32) (x4 : Int32) (σ : St) : Option Int64 := (f_X8_chance_16 x1 x2 x3 x4 σ (0 : Int32))
theorem f_X8_chance_15_e {x1 : Int32} {x2 : Int32} {x3 : Int32} {x4 : Int32} {σ : St} : f_X8_chance_15 x1 x2 x3 x4 σ  = (f_X8_chance_16 x1 x2 x3 x4 σ (0 : Int32)) := rfl
def f_X8_chance (x1 : Int32) (x2 : Int32) (x3 : Int32) (x4 : Int32) (σ : St) : Option Int64 := (if x2 < (2 : Int32) then f_X8_chance_15 x1 x2 x3 x4 σ else (if (20 : Int32) < x2 then f_X8_chance_15 x1 x2 x3 x4 σ else (f_X8_chance_16 x1 x2 x3 x4 σ (1 : Int32))))
set_option maxRecDepth 100000 in
set_option maxHeartbeats 4000000 in
theorem t_X8_chance (l : Launch) (G : GT) (hG : Dw G) (x1 : Int32) (x2 : Int32) (x3 : Int32) (x4 : Int32) (σ : St) (o : Int64) (hF : f_X8_chance x1 x2 x3 x4 σ = some o) : Ct l G yX8_chance wsX8_chance 2 58 [.ref (gA G 0), .int x1, .int x2, .int x3, .int x4] σ (some (.long o)) σ := by
  refine Met.ofW (cc := cX8_chance) (maxL := 6) (ret := (some .long)) (by decide) rfl ?_
  intro p e s m args below meth c s₁ B hml hv
  obtain ⟨rfl, hP, hK⟩ := hv
  have hx := B.exec
  have hb := B.bytes
  have hr := B.returns
  have hts := atoms_spec (ws := wsX8_chance) B.pre
  have hown : s.vm.findClass RX8 = some m.cls := findClass_of_methodNamed B.named
  have hlocks := B.notSynchronized
  have Z : CallFix p m c cX8_chance 6 s _ wsX8_chance RX8 := ⟨hx, hb, hml, hown, hts⟩
  have hS : va_S (AG G) s.heap s.heap [] := va_S.rf
  have w1 := hts (.constantLong RX8 237 (1000000001)) (by decide +kernel)
  have w2 := hts (.initialized RX3) (by decide +kernel)
  have w3n : va_Nw (.methodLinkNest "AlmanacOfTheYearGone" 239 ⟨"AlmanacOfTheYearGone$Fraction", "waysOfSoMany", "(III)J"⟩ "AlmanacOfTheYearGone") s := hK.2 _ (List.mem_of_getElem? (i := 100) rfl)
  have w3 := va_Nw.use (A := [.ref (gA G 0), .int x1, .int x2, .int x3, .int x4].toArray) rfl w3n
  have w4 := hts (.static yX3_waysOfSoMany) (by decide +kernel)
  have w5n : va_Nw (.methodLinkNest "AlmanacOfTheYearGone" 245 ⟨"AlmanacOfTheYearGone$Fraction", "power", "(II)J"⟩ "AlmanacOfTheYearGone") s := hK.2 _ (List.mem_of_getElem? (i := 101) rfl)
  have w5 := va_Nw.use (A := [.ref (gA G 0), .int x1, .int x2, .int x3, .int x4].toArray) rfl w5n
  have w6 := hts (.static yX3_power) (by decide +kernel)
  have w7n : va_Nw (.methodLinkNest "AlmanacOfTheYearGone" 249 ⟨"AlmanacOfTheYearGone$Fraction", "inLeastTerms", "(JJI)J"⟩ "AlmanacOfTheYearGone") s := hK.2 _ (List.mem_of_getElem? (i := 102) rfl)
  have w7 := va_Nw.use (A := [.ref (gA G 0), .int x1, .int x2, .int x3, .int x4].toArray) rfl w7n
  have w8 := hts (.static yX3_inLeastTerms) (by decide +kernel)
  have hl := lv_entry ([.ref (gA G 0), .int x1, .int x2, .int x3, .int x4]) (n := 6) (Nat.le_of_ble_eq_true rfl)
  rw [lg_entry_eq]
  generalize (lg_sl ([.ref (gA G 0), .int x1, .int x2, .int x3, .int x4]) ++ List.replicate (6 - (lg_sl ([.ref (gA G 0), .int x1, .int x2, .int x3, .int x4])).length) Slot.unset).toArray = ls at hl ⊢
  have hl : lv_has ls 6 [(0, .ref (gA G 0)), (1, .int x1), (2, .int x2), (3, .int x3), (4, .int x4)] := hl
  unfold f_X8_chance at hF
  refine lv_iload_n hx hb dX8_chance_0 rfl (lv_at hl 2 rfl) ?_
  refine lv_iconst (v := 2) hx hb dX8_chance_1 (by decide) ?_
  have J16 : ∀ (z0 : Int32) (H : Heap) (locs : List Loc) (hP : Pw G σ H) (hS : va_S (AG G) s.heap H locs) (ls : Array Slot) (hl : lv_has ls 6 [(0, .ref (gA G 0)), (1, .int x1), (2, .int x2), (3, .int x3), (4, .int x4)]) (hF : f_X8_chance_16 x1 x2 x3 x4 σ z0 = some o), W p l e (headSpec wsX8_chance ({ frames := 2, cells := 0, slots := 0, locals := 58 })).room s m ([.ref (gA G 0), .int x1, .int x2, .int x3, .int x4] : List Value).toArray below meth c H locs 0 0 (MQ below (qR G (some (.long o)) σ) ([.ref (gA G 0), .int x1, .int x2, .int x3, .int x4] : List Value).toArray s 0 0 (AG G)) (F0 m 16 ls [.int z0]) := by
    intro z0 H locs hP hS ls hl hF
    rw [f_X8_chance_16_e] at hF
    refine lv_istore (lv' := [(5, .int z0), (0, .ref (gA G 0)), (1, .int x1), (2, .int x2), (3, .int x3), (4, .int x4)]) hx hb dX8_chance_16 hl (by decide) rfl (fun ls hl => ?_)
    refine lv_iload_n hx hb dX8_chance_18 rfl (lv_at hl 2 rfl) ?_
    refine lv_bipush (v := 8) hx hb dX8_chance_19 (by decide) ?_
    refine k_Sv (As := [.int x1, .int (8 : Int32)]) (rest := []) Z hK hP hS (t_X8_isWithin l G hG x1 (8 : Int32) σ) (va_cwS 2 hts gX8_chance_X8_isWithin rfl rfl rfl (by decide +kernel) ⟨Nat.le_of_ble_eq_true rfl, Nat.le_of_ble_eq_true rfl⟩) rfl hl.1 rfl (Nat.le_of_ble_eq_true rfl) ⟨Nat.zero_le _, Nat.zero_le _⟩ dX8_chance_21 (fun H locs hP hS => ?_)
    have J50 : ∀ (H : Heap) (locs : List Loc) (hP : Pw G σ H) (hS : va_S (AG G) s.heap H locs) (ls : Array Slot) (hl : lv_has ls 6 [(0, .ref (gA G 0)), (1, .int x1), (2, .int x2), (3, .int x3), (4, .int x4)]) (hF : f_X8_chance_50 x1 x2 x3 x4 σ  = some o), W p l e (headSpec wsX8_chance ({ frames := 2, cells := 0, slots := 0, locals := 58 })).room s m ([.ref (gA G 0), .int x1, .int x2, .int x3, .int x4] : List Value).toArray below meth c H locs 0 0 (MQ below (qR G (some (.long o)) σ) ([.ref (gA G 0), .int x1, .int x2, .int x3, .int x4] : List Value).toArray s 0 0 (AG G)) (F0 m 50 ls []) := by
      intro  H locs hP hS ls hl hF
      rw [f_X8_chance_50_e] at hF
      refine lv_ldc2 hx hb hown w1 dX8_chance_50 ?_
      exact e_lP hx hb hr hP hS hlocks dX8_chance_53 hF
    refine lv_if_eq (tgt := 50) hx hb dX8_chance_24 (by decide) (fun c1 => ?_) (fun c1 => ?_)
    · have hF := ite_f (b2i_e0 c1) hF
      exact J50  _ _ hP hS ls (lv_sub hl [1, 2, 3, 4, 5] rfl) hF
    · have hF := ite_t (b2i_n0 c1) hF
      refine lv_iload hx hb dX8_chance_27 (lv_at hl 0 rfl) ?_
      refine lv_if_eq (tgt := 50) hx hb dX8_chance_29 (by decide) (fun c2 => ?_) (fun c2 => ?_)
      · have hF := ite_t c2 hF
        exact J50  _ _ hP hS ls (lv_sub hl [1, 2, 3, 4, 5] rfl) hF
      · have hF := ite_f c2 hF
        refine lv_iload_n hx hb dX8_chance_32 rfl (lv_at hl 4 rfl) ?_
        refine lv_bipush (v := 8) hx hb dX8_chance_33 (by decide) ?_
        refine k_Sv (As := [.int x3, .int (8 : Int32)]) (rest := []) Z hK hP hS (t_X8_isWithin l G hG x3 (8 : Int32) σ) (va_cwS 2 hts gX8_chance_X8_isWithin rfl rfl rfl (by decide +kernel) ⟨Nat.le_of_ble_eq_true rfl, Nat.le_of_ble_eq_true rfl⟩) rfl hl.1 rfl (Nat.le_of_ble_eq_true rfl) ⟨Nat.zero_le _, Nat.zero_le _⟩ dX8_chance_35 (fun H locs hP hS => ?_)
        refine lv_if_eq (tgt := 50) hx hb dX8_chance_38 (by decide) (fun c3 => ?_) (fun c3 => ?_)
        · have hF := ite_f (b2i_e0 c3) hF
          exact J50  _ _ hP hS ls (lv_sub hl [1, 2, 3, 4, 5] rfl) hF
        · have hF := ite_t (b2i_n0 c3) hF
          refine lv_iload hx hb dX8_chance_41 (lv_at hl 5 rfl) ?_
          refine lv_iconst (v := 2) hx hb dX8_chance_43 (by decide) ?_
          refine k_Sv (As := [.int x4, .int (2 : Int32)]) (rest := []) Z hK hP hS (t_X8_isBelow l G hG x4 (2 : Int32) σ) (va_cwS 2 hts gX8_chance_X8_isBelow rfl rfl rfl (by decide +kernel) ⟨Nat.le_of_ble_eq_true rfl, Nat.le_of_ble_eq_true rfl⟩) rfl hl.1 rfl (Nat.le_of_ble_eq_true rfl) ⟨Nat.zero_le _, Nat.zero_le _⟩ dX8_chance_44 (fun H locs hP hS => ?_)
          refine lv_if_ne (tgt := 54) hx hb dX8_chance_47 (by decide) (fun c4 => ?_) (fun c4 => ?_)
          · have hF := ite_t (b2i_n0 c4) hF
            refine lv_iload_n hx hb dX8_chance_54 rfl (lv_at hl 2 rfl) ?_
            refine lv_iload_n hx hb dX8_chance_55 rfl (lv_at hl 3 rfl) ?_
            refine lv_iload_n hx hb dX8_chance_56 rfl (lv_at hl 4 rfl) ?_
            obtain ⟨q5, h6, hF⟩ := ob_some hF
            refine k_SNv (As := [.int x1, .int x2, .int x3]) (rest := []) Z hK hP hS (t_X3_waysOfSoMany l G hG x1 x2 x3 σ _ h6) ⟨va_cnB 3 hts gX8_chance_X3_waysOfSoMany_n239 rfl rfl rfl w3n w2 (by decide +kernel) ⟨Nat.le_of_ble_eq_true rfl, Nat.le_of_ble_eq_true rfl⟩, w4, trivial⟩ rfl hl.1 rfl (Nat.le_of_ble_eq_true rfl) ⟨Nat.zero_le _, Nat.zero_le _⟩ dX8_chance_57 (fun H locs hP hS => ?_)
            refine lv_iload_n hx hb dX8_chance_60 rfl (lv_at hl 3 rfl) ?_
            refine lv_iload_n hx hb dX8_chance_61 rfl (lv_at hl 2 rfl) ?_
            obtain ⟨q7, h8, hF⟩ := ob_some hF
            refine k_SNv (As := [.int x2, .int x1]) (rest := [.long q5]) Z hK hP hS (t_X3_power l G hG x2 x1 σ _ h8) ⟨va_cnB 2 hts gX8_chance_X3_power_n245 rfl rfl rfl w5n w2 (by decide +kernel) ⟨Nat.le_of_ble_eq_true rfl, Nat.le_of_ble_eq_true rfl⟩, w6, trivial⟩ rfl hl.1 rfl (Nat.le_of_ble_eq_true rfl) ⟨Nat.zero_le _, Nat.zero_le _⟩ dX8_chance_62 (fun H locs hP hS => ?_)
            refine lv_iload hx hb dX8_chance_65 (lv_at hl 5 rfl) ?_
            obtain ⟨q9, h10, hF⟩ := ob_some hF
            refine k_SNv (As := [.long q5, .long q7, .int x4]) (rest := []) Z hK hP hS (t_X3_inLeastTerms l G hG q5 q7 x4 σ _ h10) ⟨va_cnB 3 hts gX8_chance_X3_inLeastTerms_n249 rfl rfl rfl w7n w2 (by decide +kernel) ⟨Nat.le_of_ble_eq_true rfl, Nat.le_of_ble_eq_true rfl⟩, w8, trivial⟩ rfl hl.1 rfl (Nat.le_of_ble_eq_true rfl) ⟨Nat.zero_le _, Nat.zero_le _⟩ dX8_chance_67 (fun H locs hP hS => ?_)
            exact e_lP hx hb hr hP hS hlocks dX8_chance_70 hF
          · have hF := ite_f (b2i_e0 c4) hF
            exact J50  _ _ hP hS ls (lv_sub hl [1, 2, 3, 4, 5] rfl) hF
  have J15 : ∀ (H : Heap) (locs : List Loc) (hP : Pw G σ H) (hS : va_S (AG G) s.heap H locs) (ls : Array Slot) (hl : lv_has ls 6 [(0, .ref (gA G 0)), (1, .int x1), (2, .int x2), (3, .int x3), (4, .int x4)]) (hF : f_X8_chance_15 x1 x2 x3 x4 σ  = some o), W p l e (headSpec wsX8_chance ({ frames := 2, cells := 0, slots := 0, locals := 58 })).room s m ([.ref (gA G 0), .int x1, .int x2, .int x3, .int x4] : List Value).toArray below meth c H locs 0 0 (MQ below (qR G (some (.long o)) σ) ([.ref (gA G 0), .int x1, .int x2, .int x3, .int x4] : List Value).toArray s 0 0 (AG G)) (F0 m 15 ls []) := by
    intro  H locs hP hS ls hl hF
    rw [f_X8_chance_15_e] at hF
    refine lv_iconst (v := 0) hx hb dX8_chance_15 (by decide) ?_
    exact J16 (0 : Int32) _ _ hP hS ls (lv_sub hl [0, 1, 2, 3, 4] rfl) hF
  refine lv_icmp_lt (tgt := 15) hx hb dX8_chance_2 (by decide) (fun c11 => ?_) (fun c11 => ?_)
  · have hF := ite_t c11 hF
    exact J15  _ _ hP hS ls (lv_sub hl [0, 1, 2, 3, 4] rfl) hF
  · have hF := ite_f c11 hF
    refine lv_iload_n hx hb dX8_chance_5 rfl (lv_at hl 2 rfl) ?_
    refine lv_bipush (v := 20) hx hb dX8_chance_6 (by decide) ?_
    refine lv_icmp_gt (tgt := 15) hx hb dX8_chance_8 (by decide) (fun c12 => ?_) (fun c12 => ?_)
    · have hF := ite_t c12 hF
      exact J15  _ _ hP hS ls (lv_sub hl [0, 1, 2, 3, 4] rfl) hF
    · have hF := ite_f c12 hF
      refine lv_iconst (v := 1) hx hb dX8_chance_11 (by decide) ?_
      refine lv_goto (tgt := 16) hx hb dX8_chance_12 (by decide) ?_
      exact J16 (1 : Int32) _ _ hP hS ls (lv_sub hl [0, 1, 2, 3, 4] rfl) hF
def f_X8_mean (x1 : Int32) (σ : St) : Option Int64 := (if (f_X8_isBelow x1 (2 : Int32)) = true then (ob (f_X7_sizesBut 21 (0 : Int32) σ) (fun q2 => ob (f_X7_toldCount 21 σ) (fun q4 => ob (f_X3_inLeastTerms q2.toInt64 ((if (1 : Int32) < q4 then q4 else (1 : Int32)).toInt64) x1 σ) (fun q6 => some q6)))) else (some (1000000001 : Int64)))
set_option maxRecDepth 100000 in
set_option maxHeartbeats 4000000 in
theorem t_X8_mean (l : Launch) (G : GT) (hG : Dw G) (x1 : Int32) (σ : St) (o : Int64) (hF : f_X8_mean x1 σ = some o) : Ct l G yX8_mean wsX8_mean 3 67 [.ref (gA G 0), .int x1] σ (some (.long o)) σ := by
  refine Met.ofW (cc := cX8_mean) (maxL := 2) (ret := (some .long)) (by decide) rfl ?_
  intro p e s m args below meth c s₁ B hml hv
  obtain ⟨rfl, hP, hK⟩ := hv
  have hx := B.exec
  have hb := B.bytes
  have hr := B.returns
  have hts := atoms_spec (ws := wsX8_mean) B.pre
  have hown : s.vm.findClass RX8 = some m.cls := findClass_of_methodNamed B.named
  have hlocks := B.notSynchronized
  have Z : CallFix p m c cX8_mean 2 s _ wsX8_mean RX8 := ⟨hx, hb, hml, hown, hts⟩
  have hS : va_S (AG G) s.heap s.heap [] := va_S.rf
  have inX8 : ∀ w ∈ u_ws RX8 TX8 7, w ∈ wsX8_mean := by decide +kernel
  have w1 := hts (.fieldLink RX8 27 "AlmanacOfTheYearGone" "now" "LAlmanacOfTheYearGone$Year;") (by decide +kernel)
  have w2 := hts (.initialized RX7) (by decide +kernel)
  have w3n : va_Nw (.methodLinkNest "AlmanacOfTheYearGone" 222 ⟨"AlmanacOfTheYearGone$Year", "sizesBut", "(I)I"⟩ "AlmanacOfTheYearGone") s := hK.2 _ (List.mem_of_getElem? (i := 96) rfl)
  have w3 := va_Nw.use (A := [.ref (gA G 0), .int x1].toArray) rfl w3n
  have w4 := hts (.instanceMethod yX7_sizesBut) (by decide +kernel)
  have w5 := hts (.selects RX7 yX7_sizesBut yX7_sizesBut) (by decide +kernel)
  have w6n : va_Nw (.methodLinkNest "AlmanacOfTheYearGone" 253 ⟨"AlmanacOfTheYearGone$Year", "toldCount", "()I"⟩ "AlmanacOfTheYearGone") s := hK.2 _ (List.mem_of_getElem? (i := 103) rfl)
  have w6 := va_Nw.use (A := [.ref (gA G 0), .int x1].toArray) rfl w6n
  have w7 := hts (.instanceMethod yX7_toldCount) (by decide +kernel)
  have w8 := hts (.selects RX7 yX7_toldCount yX7_toldCount) (by decide +kernel)
  have w9 := hts (.methodLink RX8 256 Lib.Math.max.name) (by decide +kernel)
  have w10 := hts (.static Lib.Math.max.name) (by decide +kernel)
  have w11 := hts (.initialized "java/lang/Math") (by decide +kernel)
  have w12 := hts (.code Lib.Math.max.name Lib.Math.max.code 2 (some .int)) (by decide +kernel)
  have w13 := hts (.initialized RX3) (by decide +kernel)
  have w14n : va_Nw (.methodLinkNest "AlmanacOfTheYearGone" 249 ⟨"AlmanacOfTheYearGone$Fraction", "inLeastTerms", "(JJI)J"⟩ "AlmanacOfTheYearGone") s := hK.2 _ (List.mem_of_getElem? (i := 102) rfl)
  have w14 := va_Nw.use (A := [.ref (gA G 0), .int x1].toArray) rfl w14n
  have w15 := hts (.static yX3_inLeastTerms) (by decide +kernel)
  have w16 := hts (.constantLong RX8 237 (1000000001)) (by decide +kernel)
  have hl := lv_entry ([.ref (gA G 0), .int x1]) (n := 2) (Nat.le_of_ble_eq_true rfl)
  rw [lg_entry_eq]
  generalize (lg_sl ([.ref (gA G 0), .int x1]) ++ List.replicate (2 - (lg_sl ([.ref (gA G 0), .int x1])).length) Slot.unset).toArray = ls at hl ⊢
  have hl : lv_has ls 2 [(0, .ref (gA G 0)), (1, .int x1)] := hl
  unfold f_X8_mean at hF
  refine lv_iload_n hx hb dX8_mean_0 rfl (lv_at hl 1 rfl) ?_
  refine lv_iconst (v := 2) hx hb dX8_mean_1 (by decide) ?_
  refine k_Sv (As := [.int x1, .int (2 : Int32)]) (rest := []) Z hK hP hS (t_X8_isBelow l G hG x1 (2 : Int32) σ) (va_cwS 2 hts gX8_mean_X8_isBelow rfl rfl rfl (by decide +kernel) ⟨Nat.le_of_ble_eq_true rfl, Nat.le_of_ble_eq_true rfl⟩) rfl hl.1 rfl (Nat.le_of_ble_eq_true rfl) ⟨Nat.zero_le _, Nat.zero_le _⟩ dX8_mean_2 (fun H locs hP hS => ?_)
  refine lv_if_ne (tgt := 12) hx hb dX8_mean_5 (by decide) (fun c1 => ?_) (fun c1 => ?_)
  · have hF := ite_t (b2i_n0 c1) hF
    refine lv_aload_n hx hb dX8_mean_12 rfl (lv_at hl 0 rfl) ?_
    refine va_get (ci := 4) (C := RX8) (T := TX8) (N := 7) (v := .ref (gA G 21)) hx hb hts inX8 hown hK.1 hP 0 (at_4 rfl) rfl 2 (by decide) w1 (fun _ h9 => h9) rfl dX8_mean_13 ?_
    refine lv_iconst (v := 0) hx hb dX8_mean_16 (by decide) ?_
    obtain ⟨q2, h3, hF⟩ := ob_some hF
    refine k_VNv (As := [.int (0 : Int32)]) (rest := []) Z hK hP hS (t_X7_sizesBut l G hG 21 (0 : Int32) (rfl : kd 21 = 3) σ _ h3) ⟨va_cnB 1 hts gX8_mean_X7_sizesBut_n222 rfl rfl rfl w3n w2 (by decide +kernel) ⟨Nat.le_of_ble_eq_true rfl, Nat.le_of_ble_eq_true rfl⟩, w4, w5⟩ (at_3 (rfl : kd 21 = 3)) rfl rfl hl.1 rfl (Nat.le_of_ble_eq_true rfl) ⟨Nat.zero_le _, Nat.zero_le _⟩ dX8_mean_17 (fun H locs hP hS => ?_)
    refine lv_i2l hx hb dX8_mean_20 rfl ?_
    refine lv_iconst (v := 1) hx hb dX8_mean_21 (by decide) ?_
    refine lv_aload_n hx hb dX8_mean_22 rfl (lv_at hl 0 rfl) ?_
    refine va_get (ci := 4) (C := RX8) (T := TX8) (N := 7) (v := .ref (gA G 21)) hx hb hts inX8 hown hK.1 hP 0 (at_4 rfl) rfl 2 (by decide) w1 (fun _ h9 => h9) rfl dX8_mean_23 ?_
    obtain ⟨q4, h5, hF⟩ := ob_some hF
    refine k_VNv (As := []) (rest := [.int (1 : Int32), .long q2.toInt64]) Z hK hP hS (t_X7_toldCount l G hG 21 (rfl : kd 21 = 3) σ _ h5) ⟨va_cnB 0 hts gX8_mean_X7_toldCount_n253 rfl rfl rfl w6n w2 (by decide +kernel) ⟨Nat.le_of_ble_eq_true rfl, Nat.le_of_ble_eq_true rfl⟩, w7, w8⟩ (at_3 (rfl : kd 21 = 3)) rfl rfl hl.1 rfl (Nat.le_of_ble_eq_true rfl) ⟨Nat.zero_le _, Nat.zero_le _⟩ dX8_mean_26 (fun H locs hP hS => ?_)
    refine va_mmax hx hb (hml.trans hl.1.symm) hown w9 w10 w11 w12 (Nat.le_of_ble_eq_true rfl) (Nat.le_of_ble_eq_true rfl) (Nat.zero_le _) (Nat.zero_le _) dX8_mean_29 ?_
    refine lv_i2l hx hb dX8_mean_32 rfl ?_
    refine lv_iload_n hx hb dX8_mean_33 rfl (lv_at hl 1 rfl) ?_
    obtain ⟨q6, h7, hF⟩ := ob_some hF
    refine k_SNv (As := [.long q2.toInt64, .long ((if (1 : Int32) < q4 then q4 else (1 : Int32)).toInt64), .int x1]) (rest := []) Z hK hP hS (t_X3_inLeastTerms l G hG q2.toInt64 ((if (1 : Int32) < q4 then q4 else (1 : Int32)).toInt64) x1 σ _ h7) ⟨va_cnB 3 hts gX8_mean_X3_inLeastTerms_n249 rfl rfl rfl w14n w13 (by decide +kernel) ⟨Nat.le_of_ble_eq_true rfl, Nat.le_of_ble_eq_true rfl⟩, w15, trivial⟩ rfl hl.1 rfl (Nat.le_of_ble_eq_true rfl) ⟨Nat.zero_le _, Nat.zero_le _⟩ dX8_mean_34 (fun H locs hP hS => ?_)
    exact e_lP hx hb hr hP hS hlocks dX8_mean_37 hF
  · have hF := ite_f (b2i_e0 c1) hF
    refine lv_ldc2 hx hb hown w16 dX8_mean_8 ?_
    exact e_lP hx hb hr hP hS hlocks dX8_mean_11 hF
def f_X8_gap (x1 : Int32) (σ : St) : Option (Int32 × St) := (if (f_X8_isBelow x1 (2 : Int32)) = true then (ob (f_X0_print σ) (fun q2 => if x1 = 0 then (ob (f_X0_longestGap q2) (fun q7 => some (q7, q2))) else (ob (f_X0_firstOfLongestGap q2) (fun q5 => some (q5, q2))))) else (some ((-1 : Int32), σ)))
set_option maxRecDepth 100000 in
set_option maxHeartbeats 4000000 in
theorem t_X8_gap (l : Launch) (G : GT) (hG : Dw G) (x1 : Int32) (σ : St) (o : Int32 × St) (hF : f_X8_gap x1 σ = some o) : Ct l G yX8_gap wsX8_gap 5 110 [.ref (gA G 0), .int x1] σ (some (.int o.1)) o.2 := by
  refine Met.ofW (cc := cX8_gap) (maxL := 2) (ret := (some .int)) (by decide) rfl ?_
  intro p e s m args below meth c s₁ B hml hv
  obtain ⟨rfl, hP, hK⟩ := hv
  have hx := B.exec
  have hb := B.bytes
  have hr := B.returns
  have hts := atoms_spec (ws := wsX8_gap) B.pre
  have hown : s.vm.findClass RX8 = some m.cls := findClass_of_methodNamed B.named
  have hlocks := B.notSynchronized
  have Z : CallFix p m c cX8_gap 2 s _ wsX8_gap RX8 := ⟨hx, hb, hml, hown, hts⟩
  have hS : va_S (AG G) s.heap s.heap [] := va_S.rf
  have inX8 : ∀ w ∈ u_ws RX8 TX8 7, w ∈ wsX8_gap := by decide +kernel
  have w1 := hts (.fieldLink RX8 19 "AlmanacOfTheYearGone" "almanac" "LAlmanacOfTheYearGone$Almanac;") (by decide +kernel)
  have w2 := hts (.initialized RX0) (by decide +kernel)
  have w3n : va_Nw (.methodLinkNest "AlmanacOfTheYearGone" 157 ⟨"AlmanacOfTheYearGone$Almanac", "print", "()V"⟩ "AlmanacOfTheYearGone") s := hK.2 _ (List.mem_of_getElem? (i := 66) rfl)
  have w3 := va_Nw.use (A := [.ref (gA G 0), .int x1].toArray) rfl w3n
  have w4 := hts (.instanceMethod yX0_print) (by decide +kernel)
  have w5 := hts (.selects RX0 yX0_print yX0_print) (by decide +kernel)
  have w6n : va_Nw (.methodLinkNest "AlmanacOfTheYearGone" 264 ⟨"AlmanacOfTheYearGone$Almanac", "firstOfLongestGap", "()I"⟩ "AlmanacOfTheYearGone") s := hK.2 _ (List.mem_of_getElem? (i := 106) rfl)
  have w6 := va_Nw.use (A := [.ref (gA G 0), .int x1].toArray) rfl w6n
  have w7 := hts (.instanceMethod yX0_firstOfLongestGap) (by decide +kernel)
  have w8 := hts (.selects RX0 yX0_firstOfLongestGap yX0_firstOfLongestGap) (by decide +kernel)
  have w9n : va_Nw (.methodLinkNest "AlmanacOfTheYearGone" 261 ⟨"AlmanacOfTheYearGone$Almanac", "longestGap", "()I"⟩ "AlmanacOfTheYearGone") s := hK.2 _ (List.mem_of_getElem? (i := 104) rfl)
  have w9 := va_Nw.use (A := [.ref (gA G 0), .int x1].toArray) rfl w9n
  have w10 := hts (.instanceMethod yX0_longestGap) (by decide +kernel)
  have w11 := hts (.selects RX0 yX0_longestGap yX0_longestGap) (by decide +kernel)
  have hl := lv_entry ([.ref (gA G 0), .int x1]) (n := 2) (Nat.le_of_ble_eq_true rfl)
  rw [lg_entry_eq]
  generalize (lg_sl ([.ref (gA G 0), .int x1]) ++ List.replicate (2 - (lg_sl ([.ref (gA G 0), .int x1])).length) Slot.unset).toArray = ls at hl ⊢
  have hl : lv_has ls 2 [(0, .ref (gA G 0)), (1, .int x1)] := hl
  unfold f_X8_gap at hF
  refine lv_iload_n hx hb dX8_gap_0 rfl (lv_at hl 1 rfl) ?_
  refine lv_iconst (v := 2) hx hb dX8_gap_1 (by decide) ?_
  refine k_Sv (As := [.int x1, .int (2 : Int32)]) (rest := []) Z hK hP hS (t_X8_isBelow l G hG x1 (2 : Int32) σ) (va_cwS 2 hts gX8_gap_X8_isBelow rfl rfl rfl (by decide +kernel) ⟨Nat.le_of_ble_eq_true rfl, Nat.le_of_ble_eq_true rfl⟩) rfl hl.1 rfl (Nat.le_of_ble_eq_true rfl) ⟨Nat.zero_le _, Nat.zero_le _⟩ dX8_gap_2 (fun H locs hP hS => ?_)
  refine lv_if_ne (tgt := 10) hx hb dX8_gap_5 (by decide) (fun c1 => ?_) (fun c1 => ?_)
  · have hF := ite_t (b2i_n0 c1) hF
    refine lv_aload_n hx hb dX8_gap_10 rfl (lv_at hl 0 rfl) ?_
    refine va_get (ci := 4) (C := RX8) (T := TX8) (N := 7) (v := .ref (gA G 18)) hx hb hts inX8 hown hK.1 hP 0 (at_4 rfl) rfl 1 (by decide) w1 (fun _ h9 => h9) rfl dX8_gap_11 ?_
    obtain ⟨q2, h3, hF⟩ := ob_some hF
    refine k_VN0 (As := []) (rest := []) Z hK hP hS (t_X0_print l G hG σ _ h3) ⟨va_cnB 0 hts gX8_gap_X0_print_n157 rfl rfl rfl w3n w2 (by decide +kernel) ⟨Nat.le_of_ble_eq_true rfl, Nat.le_of_ble_eq_true rfl⟩, w4, w5⟩ (at_0 (rfl : kd 18 = 0)) rfl rfl hl.1 rfl (Nat.le_of_ble_eq_true rfl) ⟨Nat.zero_le _, Nat.zero_le _⟩ dX8_gap_14 (fun H locs hP hS => ?_)
    refine lv_iload_n hx hb dX8_gap_17 rfl (lv_at hl 1 rfl) ?_
    refine lv_if_ne (tgt := 31) hx hb dX8_gap_18 (by decide) (fun c4 => ?_) (fun c4 => ?_)
    · have hF := ite_f c4 hF
      refine lv_aload_n hx hb dX8_gap_31 rfl (lv_at hl 0 rfl) ?_
      refine va_get (ci := 4) (C := RX8) (T := TX8) (N := 7) (v := .ref (gA G 18)) hx hb hts inX8 hown hK.1 hP 0 (at_4 rfl) rfl 1 (by decide) w1 (fun _ h9 => h9) rfl dX8_gap_32 ?_
      obtain ⟨q5, h6, hF⟩ := ob_some hF
      refine k_VNv (As := []) (rest := []) Z hK hP hS (t_X0_firstOfLongestGap l G hG q2 _ h6) ⟨va_cnB 0 hts gX8_gap_X0_firstOfLongestGap_n264 rfl rfl rfl w6n w2 (by decide +kernel) ⟨Nat.le_of_ble_eq_true rfl, Nat.le_of_ble_eq_true rfl⟩, w7, w8⟩ (at_0 (rfl : kd 18 = 0)) rfl rfl hl.1 rfl (Nat.le_of_ble_eq_true rfl) ⟨Nat.zero_le _, Nat.zero_le _⟩ dX8_gap_35 (fun H locs hP hS => ?_)
      exact e_iS hx hb hr hP hS hlocks dX8_gap_38 hF
    · have hF := ite_t c4 hF
      refine lv_aload_n hx hb dX8_gap_21 rfl (lv_at hl 0 rfl) ?_
      refine va_get (ci := 4) (C := RX8) (T := TX8) (N := 7) (v := .ref (gA G 18)) hx hb hts inX8 hown hK.1 hP 0 (at_4 rfl) rfl 1 (by decide) w1 (fun _ h9 => h9) rfl dX8_gap_22 ?_
      obtain ⟨q7, h8, hF⟩ := ob_some hF
      refine k_VNv (As := []) (rest := []) Z hK hP hS (t_X0_longestGap l G hG q2 _ h8) ⟨va_cnB 0 hts gX8_gap_X0_longestGap_n261 rfl rfl rfl w9n w2 (by decide +kernel) ⟨Nat.le_of_ble_eq_true rfl, Nat.le_of_ble_eq_true rfl⟩, w10, w11⟩ (at_0 (rfl : kd 18 = 0)) rfl rfl hl.1 rfl (Nat.le_of_ble_eq_true rfl) ⟨Nat.zero_le _, Nat.zero_le _⟩ dX8_gap_25 (fun H locs hP hS => ?_)
      refine lv_goto (tgt := 38) hx hb dX8_gap_28 (by decide) ?_
      exact e_iS hx hb hr hP hS hlocks dX8_gap_38 hF
  · have hF := ite_f (b2i_e0 c1) hF
    refine lv_iconst (v := -1) hx hb dX8_gap_8 (by decide) ?_
    exact e_iS hx hb hr hP hS hlocks dX8_gap_9 hF
def f_X8_quarrel_52 (σ : St) (rec7 : Int32 → Int32 → Int32 → Option Int32) (rec17 : Int32 → Int32 → Int32 → Int32 → Option Int32) (v1 : Int32) (v2 : Int32) (v3 : Int32) (v4 : Int32) : Option Int32 := (rec17 v1 v2 v3 (v4 + (1 : Int32)))
theorem f_X8_quarrel_52_e {σ : St} {rec7 : Int32 → Int32 → Int32 → Option Int32} {rec17 : Int32 → Int32 → Int32 → Int32 → Option Int32} {v1 : Int32} {v2 : Int32} {v3 : Int32} {v4 : Int32} : f_X8_quarrel_52 σ rec7 rec17 v1 v2 v3 v4 = (rec17 v1 v2 v3 (v4 + (1 : Int32))) := rfl
def f_X8_quarrel_17 (σ : St) (rec7 : Int32 → Int32 → Int32 → Option Int32) : Nat → (Int32 → Int32 → Int32 → Int32 → Option Int32)
  | 0 => fun _ _ _ _ => none
  | fl + 1 => fun v1 v2 v3 v4 => (if (5 : Int32) ≤ v4 then (rec7 v1 v2 (v3 + (1 : Int32))) else (ob (f_X7_mattersBetween 21 v3 v4 σ) (fun q3 => if q3 ≤ v2 then f_X8_quarrel_52 σ rec7 (f_X8_quarrel_17 σ rec7 fl) v1 v2 v3 v4 else (f_X8_quarrel_52 σ rec7 (f_X8_quarrel_17 σ rec7 fl) (((10 : Int32) * v3) + v4) q3 v3 v4))))
theorem f_X8_quarrel_17_s {σ : St} {rec7 : Int32 → Int32 → Int32 → Option Int32} (fl : Nat) {v1 : Int32} {v2 : Int32} {v3 : Int32} {v4 : Int32} : f_X8_quarrel_17 σ rec7 (fl + 1) v1 v2 v3 v4 = (if (5 : Int32) ≤ v4 then (rec7 v1 v2 (v3 + (1 : Int32))) else (ob (f_X7_mattersBetween 21 v3 v4 σ) (fun q3 => if q3 ≤ v2 then f_X8_quarrel_52 σ rec7 (f_X8_quarrel_17 σ rec7 fl) v1 v2 v3 v4 else (f_X8_quarrel_52 σ rec7 (f_X8_quarrel_17 σ rec7 fl) (((10 : Int32) * v3) + v4) q3 v3 v4)))) := rfl
def f_X8_quarrel_7 (σ : St) : Nat → (Int32 → Int32 → Int32 → Option Int32)
  | 0 => fun _ _ _ => none
  | fl + 1 => fun v1 v2 v3 => (if (5 : Int32) ≤ v3 then (some v1) else (f_X8_quarrel_17 σ (f_X8_quarrel_7 σ fl) fu v1 v2 v3 (v3 + (1 : Int32))))
theorem f_X8_quarrel_7_s {σ : St} (fl : Nat) {v1 : Int32} {v2 : Int32} {v3 : Int32} : f_X8_quarrel_7 σ (fl + 1) v1 v2 v3 = (if (5 : Int32) ≤ v3 then (some v1) else (f_X8_quarrel_17 σ (f_X8_quarrel_7 σ fl) fu v1 v2 v3 (v3 + (1 : Int32)))) := rfl
def f_X8_quarrel (σ : St) : Option Int32 := (f_X8_quarrel_7 σ fu (-4 : Int32) (0 : Int32) (0 : Int32))
set_option maxRecDepth 100000 in
set_option maxHeartbeats 4000000 in
theorem t_X8_quarrel (l : Launch) (G : GT) (hG : Dw G) (σ : St) (o : Int32) (hF : f_X8_quarrel σ = some o) : Ct l G yX8_quarrel wsX8_quarrel 4 91 [.ref (gA G 0)] σ (some (.int o)) σ := by
  refine Met.ofW (cc := cX8_quarrel) (maxL := 6) (ret := (some .int)) (by decide) rfl ?_
  intro p e s m args below meth c s₁ B hml hv
  obtain ⟨rfl, hP, hK⟩ := hv
  have hx := B.exec
  have hb := B.bytes
  have hr := B.returns
  have hts := atoms_spec (ws := wsX8_quarrel) B.pre
  have hown : s.vm.findClass RX8 = some m.cls := findClass_of_methodNamed B.named
  have hlocks := B.notSynchronized
  have Z : CallFix p m c cX8_quarrel 6 s _ wsX8_quarrel RX8 := ⟨hx, hb, hml, hown, hts⟩
  have hS : va_S (AG G) s.heap s.heap [] := va_S.rf
  have inX8 : ∀ w ∈ u_ws RX8 TX8 7, w ∈ wsX8_quarrel := by decide +kernel
  have w1 := hts (.fieldLink RX8 27 "AlmanacOfTheYearGone" "now" "LAlmanacOfTheYearGone$Year;") (by decide +kernel)
  have w2 := hts (.initialized RX7) (by decide +kernel)
  have w3n : va_Nw (.methodLinkNest "AlmanacOfTheYearGone" 267 ⟨"AlmanacOfTheYearGone$Year", "mattersBetween", "(II)I"⟩ "AlmanacOfTheYearGone") s := hK.2 _ (List.mem_of_getElem? (i := 107) rfl)
  have w3 := va_Nw.use (A := [.ref (gA G 0)].toArray) rfl w3n
  have w4 := hts (.instanceMethod yX7_mattersBetween) (by decide +kernel)
  have w5 := hts (.selects RX7 yX7_mattersBetween yX7_mattersBetween) (by decide +kernel)
  have hl := lv_entry ([.ref (gA G 0)]) (n := 6) (Nat.le_of_ble_eq_true rfl)
  rw [lg_entry_eq]
  generalize (lg_sl ([.ref (gA G 0)]) ++ List.replicate (6 - (lg_sl ([.ref (gA G 0)])).length) Slot.unset).toArray = ls at hl ⊢
  have hl : lv_has ls 6 [(0, .ref (gA G 0))] := hl
  unfold f_X8_quarrel at hF
  refine lv_bipush (v := -4) hx hb dX8_quarrel_0 (by decide) ?_
  refine lv_istore_n (lv' := [(1, .int (-4 : Int32)), (0, .ref (gA G 0))]) hx hb dX8_quarrel_2 rfl hl (by decide) rfl (fun ls hl => ?_)
  refine lv_iconst (v := 0) hx hb dX8_quarrel_3 (by decide) ?_
  refine lv_istore_n (lv' := [(2, .int (0 : Int32)), (1, .int (-4 : Int32)), (0, .ref (gA G 0))]) hx hb dX8_quarrel_4 rfl hl (by decide) rfl (fun ls hl => ?_)
  refine lv_iconst (v := 0) hx hb dX8_quarrel_5 (by decide) ?_
  have J7 : ∀ (fl : Nat) (v1 : Int32) (v2 : Int32) (v3 : Int32) (H : Heap) (locs : List Loc) (hP : Pw G σ H) (hS : va_S (AG G) s.heap H locs) (ls : Array Slot) (hl : lv_has ls 6 [(0, .ref (gA G 0)), (1, .int v1), (2, .int v2), (3, .int v3)]) (hF : f_X8_quarrel_7 σ fl v1 v2 v3 = some o), W p l e (headSpec wsX8_quarrel ({ frames := 4, cells := 0, slots := 0, locals := 91 })).room s m ([.ref (gA G 0)] : List Value).toArray below meth c H locs 0 0 (MQ below (qR G (some (.int o)) σ) ([.ref (gA G 0)] : List Value).toArray s 0 0 (AG G)) (F0 m 7 ls []) := by
    intro fl7
    induction fl7 with
    | zero => intro v1 v2 v3 H locs hP hS ls hl hF; cases hF
    | succ fl7 ih7 =>
      intro v1 v2 v3 H locs hP hS ls hl hF
      rw [f_X8_quarrel_7_s] at hF
      refine lv_iload_n hx hb dX8_quarrel_7 rfl (lv_at hl 3 rfl) ?_
      refine lv_iconst (v := 5) hx hb dX8_quarrel_8 (by decide) ?_
      refine lv_icmp_ge (tgt := 64) hx hb dX8_quarrel_9 (by decide) (fun c1 => ?_) (fun c1 => ?_)
      · have hF := ite_t c1 hF
        refine lv_iload_n hx hb dX8_quarrel_64 rfl (lv_at hl 1 rfl) ?_
        exact e_iP hx hb hr hP hS hlocks dX8_quarrel_65 hF
      · have hF := ite_f c1 hF
        refine lv_iload_n hx hb dX8_quarrel_12 rfl (lv_at hl 3 rfl) ?_
        refine lv_iconst (v := 1) hx hb dX8_quarrel_13 (by decide) ?_
        refine lv_iadd hx hb dX8_quarrel_14 ?_
        have J17 : ∀ (fl : Nat) (v1 : Int32) (v2 : Int32) (v3 : Int32) (v4 : Int32) (H : Heap) (locs : List Loc) (hP : Pw G σ H) (hS : va_S (AG G) s.heap H locs) (ls : Array Slot) (hl : lv_has ls 6 [(0, .ref (gA G 0)), (1, .int v1), (2, .int v2), (3, .int v3), (4, .int v4)]) (hF : f_X8_quarrel_17 σ (f_X8_quarrel_7 σ fl7) fl v1 v2 v3 v4 = some o), W p l e (headSpec wsX8_quarrel ({ frames := 4, cells := 0, slots := 0, locals := 91 })).room s m ([.ref (gA G 0)] : List Value).toArray below meth c H locs 0 0 (MQ below (qR G (some (.int o)) σ) ([.ref (gA G 0)] : List Value).toArray s 0 0 (AG G)) (F0 m 17 ls []) := by
          intro fl17
          induction fl17 with
          | zero => intro v1 v2 v3 v4 H locs hP hS ls hl hF; cases hF
          | succ fl17 ih17 =>
            intro v1 v2 v3 v4 H locs hP hS ls hl hF
            rw [f_X8_quarrel_17_s] at hF
            refine lv_iload hx hb dX8_quarrel_17 (lv_at hl 4 rfl) ?_
            refine lv_iconst (v := 5) hx hb dX8_quarrel_19 (by decide) ?_
            refine lv_icmp_ge (tgt := 58) hx hb dX8_quarrel_20 (by decide) (fun c2 => ?_) (fun c2 => ?_)
            · have hF := ite_t c2 hF
              refine lv_iinc (v := (v3 + (1 : Int32))) (lv' := [(3, .int (v3 + (1 : Int32))), (0, .ref (gA G 0)), (1, .int v1), (2, .int v2), (4, .int v4)]) hx hb dX8_quarrel_58 hl (k := 3) rfl rfl (by decide) rfl (fun ls hl => ?_)
              refine lv_goto (tgt := 7) hx hb dX8_quarrel_61 (by decide) ?_
              exact ih7 v1 v2 (v3 + (1 : Int32)) _ _ hP hS ls (lv_sub hl [1, 2, 3, 0] rfl) hF
            · have hF := ite_f c2 hF
              refine lv_aload_n hx hb dX8_quarrel_23 rfl (lv_at hl 0 rfl) ?_
              refine va_get (ci := 4) (C := RX8) (T := TX8) (N := 7) (v := .ref (gA G 21)) hx hb hts inX8 hown hK.1 hP 0 (at_4 rfl) rfl 2 (by decide) w1 (fun _ h9 => h9) rfl dX8_quarrel_24 ?_
              refine lv_iload_n hx hb dX8_quarrel_27 rfl (lv_at hl 3 rfl) ?_
              refine lv_iload hx hb dX8_quarrel_28 (lv_at hl 4 rfl) ?_
              obtain ⟨q3, h4, hF⟩ := ob_some hF
              refine k_VNv (As := [.int v3, .int v4]) (rest := []) Z hK hP hS (t_X7_mattersBetween l G hG 21 v3 v4 (rfl : kd 21 = 3) σ _ h4) ⟨va_cnB 2 hts gX8_quarrel_X7_mattersBetween_n267 rfl rfl rfl w3n w2 (by decide +kernel) ⟨Nat.le_of_ble_eq_true rfl, Nat.le_of_ble_eq_true rfl⟩, w4, w5⟩ (at_3 (rfl : kd 21 = 3)) rfl rfl hl.1 rfl (Nat.le_of_ble_eq_true rfl) ⟨Nat.zero_le _, Nat.zero_le _⟩ dX8_quarrel_30 (fun H locs hP hS => ?_)
              refine lv_istore (lv' := [(5, .int q3), (0, .ref (gA G 0)), (1, .int v1), (2, .int v2), (3, .int v3), (4, .int v4)]) hx hb dX8_quarrel_33 hl (by decide) rfl (fun ls hl => ?_)
              refine lv_iload hx hb dX8_quarrel_35 (lv_at hl 0 rfl) ?_
              refine lv_iload_n hx hb dX8_quarrel_37 rfl (lv_at hl 3 rfl) ?_
              have J52 : ∀ (v1 : Int32) (v2 : Int32) (v3 : Int32) (v4 : Int32) (H : Heap) (locs : List Loc) (hP : Pw G σ H) (hS : va_S (AG G) s.heap H locs) (ls : Array Slot) (hl : lv_has ls 6 [(0, .ref (gA G 0)), (1, .int v1), (2, .int v2), (3, .int v3), (4, .int v4)]) (hF : f_X8_quarrel_52 σ (f_X8_quarrel_7 σ fl7) (f_X8_quarrel_17 σ (f_X8_quarrel_7 σ fl7) fl17) v1 v2 v3 v4 = some o), W p l e (headSpec wsX8_quarrel ({ frames := 4, cells := 0, slots := 0, locals := 91 })).room s m ([.ref (gA G 0)] : List Value).toArray below meth c H locs 0 0 (MQ below (qR G (some (.int o)) σ) ([.ref (gA G 0)] : List Value).toArray s 0 0 (AG G)) (F0 m 52 ls []) := by
                intro v1 v2 v3 v4 H locs hP hS ls hl hF
                rw [f_X8_quarrel_52_e] at hF
                refine lv_iinc (v := (v4 + (1 : Int32))) (lv' := [(4, .int (v4 + (1 : Int32))), (0, .ref (gA G 0)), (1, .int v1), (2, .int v2), (3, .int v3)]) hx hb dX8_quarrel_52 hl (k := 4) rfl rfl (by decide) rfl (fun ls hl => ?_)
                refine lv_goto (tgt := 17) hx hb dX8_quarrel_55 (by decide) ?_
                exact ih17 v1 v2 v3 (v4 + (1 : Int32)) _ _ hP hS ls (lv_sub hl [1, 2, 3, 4, 0] rfl) hF
              refine lv_icmp_le (tgt := 52) hx hb dX8_quarrel_38 (by decide) (fun c5 => ?_) (fun c5 => ?_)
              · have hF := ite_t c5 hF
                exact J52 v1 v2 v3 v4 _ _ hP hS ls (lv_sub hl [1, 2, 3, 4, 5] rfl) hF
              · have hF := ite_f c5 hF
                refine lv_iload hx hb dX8_quarrel_41 (lv_at hl 0 rfl) ?_
                refine lv_istore_n (lv' := [(2, .int q3), (5, .int q3), (0, .ref (gA G 0)), (1, .int v1), (3, .int v3), (4, .int v4)]) hx hb dX8_quarrel_43 rfl hl (by decide) rfl (fun ls hl => ?_)
                refine lv_bipush (v := 10) hx hb dX8_quarrel_44 (by decide) ?_
                refine lv_iload_n hx hb dX8_quarrel_46 rfl (lv_at hl 4 rfl) ?_
                refine lv_imul hx hb dX8_quarrel_47 ?_
                refine lv_iload hx hb dX8_quarrel_48 (lv_at hl 5 rfl) ?_
                refine lv_iadd hx hb dX8_quarrel_50 ?_
                refine lv_istore_n (lv' := [(1, .int (((10 : Int32) * v3) + v4)), (2, .int q3), (5, .int q3), (0, .ref (gA G 0)), (3, .int v3), (4, .int v4)]) hx hb dX8_quarrel_51 rfl hl (by decide) rfl (fun ls hl => ?_)
                exact J52 (((10 : Int32) * v3) + v4) q3 v3 v4 _ _ hP hS ls (lv_sub hl [3, 0, 1, 4, 5] rfl) hF
        refine lv_istore (lv' := [(4, .int (v3 + (1 : Int32))), (0, .ref (gA G 0)), (1, .int v1), (2, .int v2), (3, .int v3)]) hx hb dX8_quarrel_15 hl (by decide) rfl (fun ls hl => ?_)
        exact J17 fu v1 v2 v3 (v3 + (1 : Int32)) _ _ hP hS ls (lv_sub hl [1, 2, 3, 4, 0] rfl) hF
  refine lv_istore_n (lv' := [(3, .int (0 : Int32)), (2, .int (0 : Int32)), (1, .int (-4 : Int32)), (0, .ref (gA G 0))]) hx hb dX8_quarrel_6 rfl hl (by decide) rfl (fun ls hl => ?_)
  exact J7 fu (-4 : Int32) (0 : Int32) (0 : Int32) _ _ hP hS ls (lv_sub hl [3, 2, 1, 0] rfl) hF
def f_X8_forged (x1 : Int32) (σ : St) : Option (Int32 × St) := (ob (f_X8_shelfAt x1 σ) (fun q1 => oc q1 ((some (f_X8_rowRefusal none σ, σ))) (fun i3 => (if (f_X8_rowRefusal (some i3) σ) = 0 then (ob (f_X0_print σ) (fun q5 => ob (f_X0_firstForged i3 q5) (fun q7 => some (q7, q5)))) else (some (f_X8_rowRefusal (some i3) σ, σ))))))
set_option maxRecDepth 100000 in
set_option maxHeartbeats 4000000 in
theorem t_X8_forged (l : Launch) (G : GT) (hG : Dw G) (x1 : Int32) (σ : St) (o : Int32 × St) (hF : f_X8_forged x1 σ = some o) : Ct l G yX8_forged wsX8_forged 5 109 [.ref (gA G 0), .int x1] σ (some (.int o.1)) o.2 := by
  refine Met.ofW (cc := cX8_forged) (maxL := 4) (ret := (some .int)) (by decide) rfl ?_
  intro p e s m args below meth c s₁ B hml hv
  obtain ⟨rfl, hP, hK⟩ := hv
  have hx := B.exec
  have hb := B.bytes
  have hr := B.returns
  have hts := atoms_spec (ws := wsX8_forged) B.pre
  have hown : s.vm.findClass RX8 = some m.cls := findClass_of_methodNamed B.named
  have hlocks := B.notSynchronized
  have Z : CallFix p m c cX8_forged 4 s _ wsX8_forged RX8 := ⟨hx, hb, hml, hown, hts⟩
  have hS : va_S (AG G) s.heap s.heap [] := va_S.rf
  have inX8 : ∀ w ∈ u_ws RX8 TX8 7, w ∈ wsX8_forged := by decide +kernel
  have w1 := hts (.fieldLink RX8 19 "AlmanacOfTheYearGone" "almanac" "LAlmanacOfTheYearGone$Almanac;") (by decide +kernel)
  have w2 := hts (.initialized RX0) (by decide +kernel)
  have w3n : va_Nw (.methodLinkNest "AlmanacOfTheYearGone" 157 ⟨"AlmanacOfTheYearGone$Almanac", "print", "()V"⟩ "AlmanacOfTheYearGone") s := hK.2 _ (List.mem_of_getElem? (i := 66) rfl)
  have w3 := va_Nw.use (A := [.ref (gA G 0), .int x1].toArray) rfl w3n
  have w4 := hts (.instanceMethod yX0_print) (by decide +kernel)
  have w5 := hts (.selects RX0 yX0_print yX0_print) (by decide +kernel)
  have w6n : va_Nw (.methodLinkNest "AlmanacOfTheYearGone" 270 ⟨"AlmanacOfTheYearGone$Almanac", "firstForged", "(LAlmanacOfTheYearGone$Shelf;)I"⟩ "AlmanacOfTheYearGone") s := hK.2 _ (List.mem_of_getElem? (i := 109) rfl)
  have w6 := va_Nw.use (A := [.ref (gA G 0), .int x1].toArray) rfl w6n
  have w7 := hts (.instanceMethod yX0_firstForged) (by decide +kernel)
  have w8 := hts (.selects RX0 yX0_firstForged yX0_firstForged) (by decide +kernel)
  have hl := lv_entry ([.ref (gA G 0), .int x1]) (n := 4) (Nat.le_of_ble_eq_true rfl)
  rw [lg_entry_eq]
  generalize (lg_sl ([.ref (gA G 0), .int x1]) ++ List.replicate (4 - (lg_sl ([.ref (gA G 0), .int x1])).length) Slot.unset).toArray = ls at hl ⊢
  have hl : lv_has ls 4 [(0, .ref (gA G 0)), (1, .int x1)] := hl
  unfold f_X8_forged at hF
  refine lv_aload_n hx hb dX8_forged_0 rfl (lv_at hl 0 rfl) ?_
  refine lv_iload_n hx hb dX8_forged_1 rfl (lv_at hl 1 rfl) ?_
  obtain ⟨q1, h2, hF⟩ := ob_some hF
  refine k_Vv (As := [.int x1]) (rest := []) Z hK hP hS (t_X8_shelfAt l G hG x1 σ _ h2) (cwV 1 hts gX8_forged_X8_shelfAt rfl rfl rfl (by decide +kernel) ⟨Nat.le_of_ble_eq_true rfl, Nat.le_of_ble_eq_true rfl⟩) (at_4 rfl) rfl rfl hl.1 rfl (Nat.le_of_ble_eq_true rfl) ⟨Nat.zero_le _, Nat.zero_le _⟩ dX8_forged_2 (fun H locs hP hS => ?_)
  rcases q1 with _ | i3
  · have hF := oc_n hF
    refine W.eq (g2 := F0 m 5 ls [.null]) rfl ?_
    refine lv_astore_nN (lv' := [(2, .null), (0, .ref (gA G 0)), (1, .int x1)]) hx hb dX8_forged_5 rfl hl (by decide) rfl (fun ls hl => ?_)
    refine lv_aload_nN hx hb dX8_forged_6 rfl (lv_at hl 0 rfl) ?_
    refine k_Sv (As := [.null]) (rest := []) Z hK hP hS (t_X8_rowRefusal l G hG none (fun _ h9 => by cases h9) σ) (va_cwS 1 hts gX8_forged_X8_rowRefusal rfl rfl rfl (by decide +kernel) ⟨Nat.le_of_ble_eq_true rfl, Nat.le_of_ble_eq_true rfl⟩) rfl hl.1 rfl (Nat.le_of_ble_eq_true rfl) ⟨Nat.zero_le _, Nat.zero_le _⟩ dX8_forged_7 (fun H locs hP hS => ?_)
    refine lv_istore_n (lv' := [(3, .int (f_X8_rowRefusal none σ)), (2, .null), (0, .ref (gA G 0)), (1, .int x1)]) hx hb dX8_forged_10 rfl hl (by decide) rfl (fun ls hl => ?_)
    refine lv_aload_nN hx hb dX8_forged_11 rfl (lv_at hl 1 rfl) ?_
    refine lv_ifnullN (tgt := 19) hx hb dX8_forged_12 (by decide) ?_
    refine lv_iload_n hx hb dX8_forged_19 rfl (lv_at hl 0 rfl) ?_
    exact e_iS hx hb hr hP hS hlocks dX8_forged_20 hF
  · have hF := oc_s hF
    have ki3 : kd i3 = 2 := q_X8_shelfAt  h2
    refine W.eq (g2 := F0 m 5 ls [.ref (gA G i3)]) rfl ?_
    refine lv_astore_n (lv' := [(2, .ref (gA G i3)), (0, .ref (gA G 0)), (1, .int x1)]) hx hb dX8_forged_5 rfl hl (by decide) rfl (fun ls hl => ?_)
    refine lv_aload_n hx hb dX8_forged_6 rfl (lv_at hl 0 rfl) ?_
    refine k_Sv (As := [.ref (gA G i3)]) (rest := []) Z hK hP hS (t_X8_rowRefusal l G hG (some i3) (fun _ h9 => by cases h9; exact ki3) σ) (va_cwS 1 hts gX8_forged_X8_rowRefusal rfl rfl rfl (by decide +kernel) ⟨Nat.le_of_ble_eq_true rfl, Nat.le_of_ble_eq_true rfl⟩) rfl hl.1 rfl (Nat.le_of_ble_eq_true rfl) ⟨Nat.zero_le _, Nat.zero_le _⟩ dX8_forged_7 (fun H locs hP hS => ?_)
    refine lv_istore_n (lv' := [(3, .int (f_X8_rowRefusal (some i3) σ)), (2, .ref (gA G i3)), (0, .ref (gA G 0)), (1, .int x1)]) hx hb dX8_forged_10 rfl hl (by decide) rfl (fun ls hl => ?_)
    refine lv_aload_n hx hb dX8_forged_11 rfl (lv_at hl 1 rfl) ?_
    refine lv_ifnull hx hb dX8_forged_12 ?_
    refine lv_iload_n hx hb dX8_forged_15 rfl (lv_at hl 0 rfl) ?_
    refine lv_if_eq (tgt := 21) hx hb dX8_forged_16 (by decide) (fun c4 => ?_) (fun c4 => ?_)
    · have hF := ite_t c4 hF
      refine lv_aload_n hx hb dX8_forged_21 rfl (lv_at hl 2 rfl) ?_
      refine va_get (ci := 4) (C := RX8) (T := TX8) (N := 7) (v := .ref (gA G 18)) hx hb hts inX8 hown hK.1 hP 0 (at_4 rfl) rfl 1 (by decide) w1 (fun _ h9 => h9) rfl dX8_forged_22 ?_
      obtain ⟨q5, h6, hF⟩ := ob_some hF
      refine k_VN0 (As := []) (rest := []) Z hK hP hS (t_X0_print l G hG σ _ h6) ⟨va_cnB 0 hts gX8_forged_X0_print_n157 rfl rfl rfl w3n w2 (by decide +kernel) ⟨Nat.le_of_ble_eq_true rfl, Nat.le_of_ble_eq_true rfl⟩, w4, w5⟩ (at_0 (rfl : kd 18 = 0)) rfl rfl hl.1 rfl (Nat.le_of_ble_eq_true rfl) ⟨Nat.zero_le _, Nat.zero_le _⟩ dX8_forged_25 (fun H locs hP hS => ?_)
      refine lv_aload_n hx hb dX8_forged_28 rfl (lv_at hl 2 rfl) ?_
      refine va_get (ci := 4) (C := RX8) (T := TX8) (N := 7) (v := .ref (gA G 18)) hx hb hts inX8 hown hK.1 hP 0 (at_4 rfl) rfl 1 (by decide) w1 (fun _ h9 => h9) rfl dX8_forged_29 ?_
      refine lv_aload_n hx hb dX8_forged_32 rfl (lv_at hl 1 rfl) ?_
      obtain ⟨q7, h8, hF⟩ := ob_some hF
      refine k_VNv (As := [.ref (gA G i3)]) (rest := []) Z hK hP hS (t_X0_firstForged l G hG i3 ki3 q5 _ h8) ⟨va_cnB 1 hts gX8_forged_X0_firstForged_n270 rfl rfl rfl w6n w2 (by decide +kernel) ⟨Nat.le_of_ble_eq_true rfl, Nat.le_of_ble_eq_true rfl⟩, w7, w8⟩ (at_0 (rfl : kd 18 = 0)) rfl rfl hl.1 rfl (Nat.le_of_ble_eq_true rfl) ⟨Nat.zero_le _, Nat.zero_le _⟩ dX8_forged_33 (fun H locs hP hS => ?_)
      exact e_iS hx hb hr hP hS hlocks dX8_forged_36 hF
    · have hF := ite_f c4 hF
      refine lv_iload_n hx hb dX8_forged_19 rfl (lv_at hl 0 rfl) ?_
      exact e_iS hx hb hr hP hS hlocks dX8_forged_20 hF
def f_X8_judge_98 (x1 : Int32) (x2 : Int32) (σ : St) (rec37 : Nat → Int32 → Option Int32) (j3 : Nat) (v5 : Int32) : Option Int32 := (rec37 j3 (v5 + (1 : Int32)))
theorem f_X8_judge_98_e {x1 : Int32} {x2 : Int32} {σ : St} {rec37 : Nat → Int32 → Option Int32} {j3 : Nat} {v5 : Int32} : f_X8_judge_98 x1 x2 σ rec37 j3 v5 = (rec37 j3 (v5 + (1 : Int32))) := rfl
def f_X8_judge_37 (x1 : Int32) (x2 : Int32) (σ : St) : Nat → (Nat → Int32 → Option Int32)
  | 0 => fun _ _ => none
  | fl + 1 => fun j3 v5 => (if (σ j3 1) ≤ v5 then (some (-4 : Int32)) else (ob (f_X5_isSkipped j3 v5 σ) (fun q7 => if q7 = true then f_X8_judge_98 x1 x2 σ (f_X8_judge_37 x1 x2 σ fl) j3 v5 else (ob (f_X5_cell j3 v5 σ) (fun q10 => ob (f_X7_memoryOf 21 x2 (if (365 : Int32) < (σ 21 3) + v5 then (365 : Int32) else (σ 21 3) + v5) σ) (fun q12 => if q10 = (f_J6_bitCount_0f7a4 q12) then f_X8_judge_98 x1 x2 σ (f_X8_judge_37 x1 x2 σ fl) j3 v5 else (some v5)))))))
theorem f_X8_judge_37_s {x1 : Int32} {x2 : Int32} {σ : St} (fl : Nat) {j3 : Nat} {v5 : Int32} : f_X8_judge_37 x1 x2 σ (fl + 1) j3 v5 = (if (σ j3 1) ≤ v5 then (some (-4 : Int32)) else (ob (f_X5_isSkipped j3 v5 σ) (fun q7 => if q7 = true then f_X8_judge_98 x1 x2 σ (f_X8_judge_37 x1 x2 σ fl) j3 v5 else (ob (f_X5_cell j3 v5 σ) (fun q10 => ob (f_X7_memoryOf 21 x2 (if (365 : Int32) < (σ 21 3) + v5 then (365 : Int32) else (σ 21 3) + v5) σ) (fun q12 => if q10 = (f_J6_bitCount_0f7a4 q12) then f_X8_judge_98 x1 x2 σ (f_X8_judge_37 x1 x2 σ fl) j3 v5 else (some v5))))))) := rfl
def f_X8_judge (x1 : Int32) (x2 : Int32) (σ : St) : Option Int32 := (if (f_X8_isBelow x2 (5 : Int32)) = true then (ob (f_X8_shelfAt x1 σ) (fun q2 => oc q2 ((some (f_X8_rowRefusal none σ))) (fun i4 => (if (f_X8_rowRefusal (some i4) σ) = 0 then (f_X8_judge_37 x1 x2 σ fu i4 (0 : Int32)) else (some (f_X8_rowRefusal (some i4) σ)))))) else (some (-1 : Int32)))
set_option maxRecDepth 100000 in
set_option maxHeartbeats 4000000 in
theorem t_X8_judge (l : Launch) (G : GT) (hG : Dw G) (x1 : Int32) (x2 : Int32) (σ : St) (o : Int32) (hF : f_X8_judge x1 x2 σ = some o) : Ct l G yX8_judge wsX8_judge 3 68 [.ref (gA G 0), .int x1, .int x2] σ (some (.int o)) σ := by
  refine Met.ofW (cc := cX8_judge) (maxL := 7) (ret := (some .int)) (by decide) rfl ?_
  intro p e s m args below meth c s₁ B hml hv
  obtain ⟨rfl, hP, hK⟩ := hv
  have hx := B.exec
  have hb := B.bytes
  have hr := B.returns
  have hts := atoms_spec (ws := wsX8_judge) B.pre
  have hown : s.vm.findClass RX8 = some m.cls := findClass_of_methodNamed B.named
  have hlocks := B.notSynchronized
  have Z : CallFix p m c cX8_judge 7 s _ wsX8_judge RX8 := ⟨hx, hb, hml, hown, hts⟩
  have hS : va_S (AG G) s.heap s.heap [] := va_S.rf
  have inX5 : ∀ w ∈ u_ws RX5 TX5 5, w ∈ wsX8_judge := by decide +kernel
  have inX8 : ∀ w ∈ u_ws RX8 TX8 7, w ∈ wsX8_judge := by decide +kernel
  have inX7 : ∀ w ∈ u_ws RX7 TX7 4, w ∈ wsX8_judge := by decide +kernel
  have w1n : va_Nw (.fieldLinkNest "AlmanacOfTheYearGone" 273 "AlmanacOfTheYearGone$Shelf" "length" "I" "AlmanacOfTheYearGone") s := hK.2 _ (List.mem_of_getElem? (i := 4) rfl)
  have w1 := va_Nw.use (A := [.ref (gA G 0), .int x1, .int x2].toArray) rfl w1n
  have w2 := hts (.fieldLink RX8 27 "AlmanacOfTheYearGone" "now" "LAlmanacOfTheYearGone$Year;") (by decide +kernel)
  have w3n : va_Nw (.fieldLinkNest "AlmanacOfTheYearGone" 134 "AlmanacOfTheYearGone$Year" "day" "I" "AlmanacOfTheYearGone") s := hK.2 _ (List.mem_of_getElem? (i := 27) rfl)
  have w3 := va_Nw.use (A := [.ref (gA G 0), .int x1, .int x2].toArray) rfl w3n
  have w4 := hts (.methodLink RX8 276 Lib.Math.min.name) (by decide +kernel)
  have w5 := hts (.static Lib.Math.min.name) (by decide +kernel)
  have w6 := hts (.initialized "java/lang/Math") (by decide +kernel)
  have w7 := hts (.code Lib.Math.min.name Lib.Math.min.code 2 (some .int)) (by decide +kernel)
  have w8 := hts (.initialized RX5) (by decide +kernel)
  have w9n : va_Nw (.methodLinkNest "AlmanacOfTheYearGone" 279 ⟨"AlmanacOfTheYearGone$Shelf", "isSkipped", "(I)Z"⟩ "AlmanacOfTheYearGone") s := hK.2 _ (List.mem_of_getElem? (i := 111) rfl)
  have w9 := va_Nw.use (A := [.ref (gA G 0), .int x1, .int x2].toArray) rfl w9n
  have w10 := hts (.instanceMethod yX5_isSkipped) (by decide +kernel)
  have w11 := hts (.selects RX5 yX5_isSkipped yX5_isSkipped) (by decide +kernel)
  have w12n : va_Nw (.methodLinkNest "AlmanacOfTheYearGone" 282 ⟨"AlmanacOfTheYearGone$Shelf", "cell", "(I)I"⟩ "AlmanacOfTheYearGone") s := hK.2 _ (List.mem_of_getElem? (i := 112) rfl)
  have w12 := va_Nw.use (A := [.ref (gA G 0), .int x1, .int x2].toArray) rfl w12n
  have w13 := hts (.instanceMethod yX5_cell) (by decide +kernel)
  have w14 := hts (.selects RX5 yX5_cell yX5_cell) (by decide +kernel)
  have w15 := hts (.initialized RX7) (by decide +kernel)
  have w16n : va_Nw (.methodLinkNest "AlmanacOfTheYearGone" 138 ⟨"AlmanacOfTheYearGone$Year", "memoryOf", "(II)I"⟩ "AlmanacOfTheYearGone") s := hK.2 _ (List.mem_of_getElem? (i := 60) rfl)
  have w16 := va_Nw.use (A := [.ref (gA G 0), .int x1, .int x2].toArray) rfl w16n
  have w17 := hts (.instanceMethod yX7_memoryOf) (by decide +kernel)
  have w18 := hts (.selects RX7 yX7_memoryOf yX7_memoryOf) (by decide +kernel)
  have hl := lv_entry ([.ref (gA G 0), .int x1, .int x2]) (n := 7) (Nat.le_of_ble_eq_true rfl)
  rw [lg_entry_eq]
  generalize (lg_sl ([.ref (gA G 0), .int x1, .int x2]) ++ List.replicate (7 - (lg_sl ([.ref (gA G 0), .int x1, .int x2])).length) Slot.unset).toArray = ls at hl ⊢
  have hl : lv_has ls 7 [(0, .ref (gA G 0)), (1, .int x1), (2, .int x2)] := hl
  unfold f_X8_judge at hF
  refine lv_iload_n hx hb dX8_judge_0 rfl (lv_at hl 2 rfl) ?_
  refine lv_iconst (v := 5) hx hb dX8_judge_1 (by decide) ?_
  refine k_Sv (As := [.int x2, .int (5 : Int32)]) (rest := []) Z hK hP hS (t_X8_isBelow l G hG x2 (5 : Int32) σ) (va_cwS 2 hts gX8_judge_X8_isBelow rfl rfl rfl (by decide +kernel) ⟨Nat.le_of_ble_eq_true rfl, Nat.le_of_ble_eq_true rfl⟩) rfl hl.1 rfl (Nat.le_of_ble_eq_true rfl) ⟨Nat.zero_le _, Nat.zero_le _⟩ dX8_judge_2 (fun H locs hP hS => ?_)
  refine lv_if_ne (tgt := 10) hx hb dX8_judge_5 (by decide) (fun c1 => ?_) (fun c1 => ?_)
  · have hF := ite_t (b2i_n0 c1) hF
    refine lv_aload_n hx hb dX8_judge_10 rfl (lv_at hl 0 rfl) ?_
    refine lv_iload_n hx hb dX8_judge_11 rfl (lv_at hl 1 rfl) ?_
    obtain ⟨q2, h3, hF⟩ := ob_some hF
    refine k_Vv (As := [.int x1]) (rest := []) Z hK hP hS (t_X8_shelfAt l G hG x1 σ _ h3) (cwV 1 hts gX8_judge_X8_shelfAt rfl rfl rfl (by decide +kernel) ⟨Nat.le_of_ble_eq_true rfl, Nat.le_of_ble_eq_true rfl⟩) (at_4 rfl) rfl rfl hl.1 rfl (Nat.le_of_ble_eq_true rfl) ⟨Nat.zero_le _, Nat.zero_le _⟩ dX8_judge_12 (fun H locs hP hS => ?_)
    rcases q2 with _ | i4
    · have hF := oc_n hF
      refine W.eq (g2 := F0 m 15 ls [.null]) rfl ?_
      refine lv_astore_nN (lv' := [(3, .null), (0, .ref (gA G 0)), (1, .int x1), (2, .int x2)]) hx hb dX8_judge_15 rfl hl (by decide) rfl (fun ls hl => ?_)
      refine lv_aload_nN hx hb dX8_judge_16 rfl (lv_at hl 0 rfl) ?_
      refine k_Sv (As := [.null]) (rest := []) Z hK hP hS (t_X8_rowRefusal l G hG none (fun _ h9 => by cases h9) σ) (va_cwS 1 hts gX8_judge_X8_rowRefusal rfl rfl rfl (by decide +kernel) ⟨Nat.le_of_ble_eq_true rfl, Nat.le_of_ble_eq_true rfl⟩) rfl hl.1 rfl (Nat.le_of_ble_eq_true rfl) ⟨Nat.zero_le _, Nat.zero_le _⟩ dX8_judge_17 (fun H locs hP hS => ?_)
      refine lv_istore (lv' := [(4, .int (f_X8_rowRefusal none σ)), (3, .null), (0, .ref (gA G 0)), (1, .int x1), (2, .int x2)]) hx hb dX8_judge_20 hl (by decide) rfl (fun ls hl => ?_)
      refine lv_aload_nN hx hb dX8_judge_22 rfl (lv_at hl 1 rfl) ?_
      refine lv_ifnullN (tgt := 31) hx hb dX8_judge_23 (by decide) ?_
      refine lv_iload hx hb dX8_judge_31 (lv_at hl 0 rfl) ?_
      exact e_iP hx hb hr hP hS hlocks dX8_judge_33 hF
    · have hF := oc_s hF
      have ki4 : kd i4 = 2 := q_X8_shelfAt  h3
      refine W.eq (g2 := F0 m 15 ls [.ref (gA G i4)]) rfl ?_
      refine lv_astore_n (lv' := [(3, .ref (gA G i4)), (0, .ref (gA G 0)), (1, .int x1), (2, .int x2)]) hx hb dX8_judge_15 rfl hl (by decide) rfl (fun ls hl => ?_)
      refine lv_aload_n hx hb dX8_judge_16 rfl (lv_at hl 0 rfl) ?_
      refine k_Sv (As := [.ref (gA G i4)]) (rest := []) Z hK hP hS (t_X8_rowRefusal l G hG (some i4) (fun _ h9 => by cases h9; exact ki4) σ) (va_cwS 1 hts gX8_judge_X8_rowRefusal rfl rfl rfl (by decide +kernel) ⟨Nat.le_of_ble_eq_true rfl, Nat.le_of_ble_eq_true rfl⟩) rfl hl.1 rfl (Nat.le_of_ble_eq_true rfl) ⟨Nat.zero_le _, Nat.zero_le _⟩ dX8_judge_17 (fun H locs hP hS => ?_)
      refine lv_istore (lv' := [(4, .int (f_X8_rowRefusal (some i4) σ)), (3, .ref (gA G i4)), (0, .ref (gA G 0)), (1, .int x1), (2, .int x2)]) hx hb dX8_judge_20 hl (by decide) rfl (fun ls hl => ?_)
      refine lv_aload_n hx hb dX8_judge_22 rfl (lv_at hl 1 rfl) ?_
      refine lv_ifnull hx hb dX8_judge_23 ?_
      refine lv_iload hx hb dX8_judge_26 (lv_at hl 0 rfl) ?_
      refine lv_if_eq (tgt := 34) hx hb dX8_judge_28 (by decide) (fun c5 => ?_) (fun c5 => ?_)
      · have hF := ite_t c5 hF
        refine lv_iconst (v := 0) hx hb dX8_judge_34 (by decide) ?_
        have J37 : ∀ (fl : Nat) (j3 : Nat) (v5 : Int32) (hj3 : kd j3 = 2) (H : Heap) (locs : List Loc) (hP : Pw G σ H) (hS : va_S (AG G) s.heap H locs) (ls : Array Slot) (hl : lv_has ls 7 [(0, .ref (gA G 0)), (1, .int x1), (2, .int x2), (3, .ref (gA G j3)), (5, .int v5)]) (hF : f_X8_judge_37 x1 x2 σ fl j3 v5 = some o), W p l e (headSpec wsX8_judge ({ frames := 3, cells := 0, slots := 0, locals := 68 })).room s m ([.ref (gA G 0), .int x1, .int x2] : List Value).toArray below meth c H locs 0 0 (MQ below (qR G (some (.int o)) σ) ([.ref (gA G 0), .int x1, .int x2] : List Value).toArray s 0 0 (AG G)) (F0 m 37 ls []) := by
          intro fl37
          induction fl37 with
          | zero => intro j3 v5 hj3 H locs hP hS ls hl hF; cases hF
          | succ fl37 ih37 =>
            intro j3 v5 hj3 H locs hP hS ls hl hF
            rw [f_X8_judge_37_s] at hF
            refine lv_iload hx hb dX8_judge_37 (lv_at hl 4 rfl) ?_
            refine lv_aload_n hx hb dX8_judge_39 rfl (lv_at hl 3 rfl) ?_
            refine va_getN (ci := 2) (C := RX5) (T := TX5) (N := 5) (v := .int (σ j3 1)) hx hb hts inX5 hown hK.1 hP j3 (at_2 hj3) rfl 1 (by decide) w1 (fun _ h9 => h9) rfl dX8_judge_40 ?_
            refine lv_icmp_ge (tgt := 104) hx hb dX8_judge_43 (by decide) (fun c6 => ?_) (fun c6 => ?_)
            · have hF := ite_t c6 hF
              refine lv_bipush (v := -4) hx hb dX8_judge_104 (by decide) ?_
              exact e_iP hx hb hr hP hS hlocks dX8_judge_106 hF
            · have hF := ite_f c6 hF
              refine lv_aload_n hx hb dX8_judge_46 rfl (lv_at hl 0 rfl) ?_
              refine va_get (ci := 4) (C := RX8) (T := TX8) (N := 7) (v := .ref (gA G 21)) hx hb hts inX8 hown hK.1 hP 0 (at_4 rfl) rfl 2 (by decide) w2 (fun _ h9 => h9) rfl dX8_judge_47 ?_
              refine va_getN (ci := 3) (C := RX7) (T := TX7) (N := 4) (v := .int (σ 21 3)) hx hb hts inX7 hown hK.1 hP 21 (at_3 (rfl : kd 21 = 3)) rfl 3 (by decide) w3 (fun _ h9 => h9) rfl dX8_judge_50 ?_
              refine lv_iload hx hb dX8_judge_53 (lv_at hl 4 rfl) ?_
              refine lv_iadd hx hb dX8_judge_55 ?_
              refine lv_sipush (v := 365) hx hb dX8_judge_56 (by decide) ?_
              refine va_mmin hx hb (hml.trans hl.1.symm) hown w4 w5 w6 w7 (Nat.le_of_ble_eq_true rfl) (Nat.le_of_ble_eq_true rfl) (Nat.zero_le _) (Nat.zero_le _) dX8_judge_59 ?_
              refine lv_istore (lv' := [(6, .int (if (365 : Int32) < (σ 21 3) + v5 then (365 : Int32) else (σ 21 3) + v5)), (0, .ref (gA G 0)), (1, .int x1), (2, .int x2), (3, .ref (gA G j3)), (5, .int v5)]) hx hb dX8_judge_62 hl (by decide) rfl (fun ls hl => ?_)
              refine lv_aload_n hx hb dX8_judge_64 rfl (lv_at hl 4 rfl) ?_
              refine lv_iload hx hb dX8_judge_65 (lv_at hl 5 rfl) ?_
              obtain ⟨q7, h8, hF⟩ := ob_some hF
              refine k_VNv (As := [.int v5]) (rest := []) Z hK hP hS (t_X5_isSkipped l G hG j3 v5 hj3 σ _ h8) ⟨va_cnB 1 hts gX8_judge_X5_isSkipped_n279 rfl rfl rfl w9n w8 (by decide +kernel) ⟨Nat.le_of_ble_eq_true rfl, Nat.le_of_ble_eq_true rfl⟩, w10, w11⟩ (at_2 hj3) rfl rfl hl.1 rfl (Nat.le_of_ble_eq_true rfl) ⟨Nat.zero_le _, Nat.zero_le _⟩ dX8_judge_67 (fun H locs hP hS => ?_)
              have J98 : ∀ (j3 : Nat) (v5 : Int32) (hj3 : kd j3 = 2) (H : Heap) (locs : List Loc) (hP : Pw G σ H) (hS : va_S (AG G) s.heap H locs) (ls : Array Slot) (hl : lv_has ls 7 [(0, .ref (gA G 0)), (1, .int x1), (2, .int x2), (3, .ref (gA G j3)), (5, .int v5)]) (hF : f_X8_judge_98 x1 x2 σ (f_X8_judge_37 x1 x2 σ fl37) j3 v5 = some o), W p l e (headSpec wsX8_judge ({ frames := 3, cells := 0, slots := 0, locals := 68 })).room s m ([.ref (gA G 0), .int x1, .int x2] : List Value).toArray below meth c H locs 0 0 (MQ below (qR G (some (.int o)) σ) ([.ref (gA G 0), .int x1, .int x2] : List Value).toArray s 0 0 (AG G)) (F0 m 98 ls []) := by
                intro j3 v5 hj3 H locs hP hS ls hl hF
                rw [f_X8_judge_98_e] at hF
                refine lv_iinc (v := (v5 + (1 : Int32))) (lv' := [(5, .int (v5 + (1 : Int32))), (0, .ref (gA G 0)), (1, .int x1), (2, .int x2), (3, .ref (gA G j3))]) hx hb dX8_judge_98 hl (k := 4) rfl rfl (by decide) rfl (fun ls hl => ?_)
                refine lv_goto (tgt := 37) hx hb dX8_judge_101 (by decide) ?_
                exact ih37 j3 (v5 + (1 : Int32)) (hj3) _ _ hP hS ls (lv_sub hl [1, 2, 3, 4, 0] rfl) hF
              refine lv_if_ne (tgt := 98) hx hb dX8_judge_70 (by decide) (fun c9 => ?_) (fun c9 => ?_)
              · have hF := ite_t (b2i_n0 c9) hF
                exact J98 j3 v5 (hj3) _ _ hP hS ls (lv_sub hl [1, 2, 3, 4, 5] rfl) hF
              · have hF := ite_f (b2i_e0 c9) hF
                refine lv_aload_n hx hb dX8_judge_73 rfl (lv_at hl 4 rfl) ?_
                refine lv_iload hx hb dX8_judge_74 (lv_at hl 5 rfl) ?_
                obtain ⟨q10, h11, hF⟩ := ob_some hF
                refine k_VNv (As := [.int v5]) (rest := []) Z hK hP hS (t_X5_cell l G hG j3 v5 hj3 σ _ h11) ⟨va_cnB 1 hts gX8_judge_X5_cell_n282 rfl rfl rfl w12n w8 (by decide +kernel) ⟨Nat.le_of_ble_eq_true rfl, Nat.le_of_ble_eq_true rfl⟩, w13, w14⟩ (at_2 hj3) rfl rfl hl.1 rfl (Nat.le_of_ble_eq_true rfl) ⟨Nat.zero_le _, Nat.zero_le _⟩ dX8_judge_76 (fun H locs hP hS => ?_)
                refine lv_aload_n hx hb dX8_judge_79 rfl (lv_at hl 1 rfl) ?_
                refine va_get (ci := 4) (C := RX8) (T := TX8) (N := 7) (v := .ref (gA G 21)) hx hb hts inX8 hown hK.1 hP 0 (at_4 rfl) rfl 2 (by decide) w2 (fun _ h9 => h9) rfl dX8_judge_80 ?_
                refine lv_iload_n hx hb dX8_judge_83 rfl (lv_at hl 3 rfl) ?_
                refine lv_iload hx hb dX8_judge_84 (lv_at hl 0 rfl) ?_
                obtain ⟨q12, h13, hF⟩ := ob_some hF
                refine k_VNv (As := [.int x2, .int (if (365 : Int32) < (σ 21 3) + v5 then (365 : Int32) else (σ 21 3) + v5)]) (rest := [.int q10]) Z hK hP hS (t_X7_memoryOf l G hG 21 x2 (if (365 : Int32) < (σ 21 3) + v5 then (365 : Int32) else (σ 21 3) + v5) (rfl : kd 21 = 3) σ _ h13) ⟨va_cnB 2 hts gX8_judge_X7_memoryOf_n138 rfl rfl rfl w16n w15 (by decide +kernel) ⟨Nat.le_of_ble_eq_true rfl, Nat.le_of_ble_eq_true rfl⟩, w17, w18⟩ (at_3 (rfl : kd 21 = 3)) rfl rfl hl.1 rfl (Nat.le_of_ble_eq_true rfl) ⟨Nat.zero_le _, Nat.zero_le _⟩ dX8_judge_86 (fun H locs hP hS => ?_)
                refine k_Sv (As := [.int q12]) (rest := [.int q10]) Z hK hP hS (t_J6_bitCount_0f7a4 l G hG q12 σ) (va_cwS 1 hts gX8_judge_J6_bitCount_0f7a4 rfl rfl rfl (by decide +kernel) ⟨Nat.le_of_ble_eq_true rfl, Nat.le_of_ble_eq_true rfl⟩) rfl hl.1 rfl (Nat.le_of_ble_eq_true rfl) ⟨Nat.zero_le _, Nat.zero_le _⟩ dX8_judge_89 (fun H locs hP hS => ?_)
                refine lv_icmp_eq (tgt := 98) hx hb dX8_judge_92 (by decide) (fun c14 => ?_) (fun c14 => ?_)
                · have hF := ite_t c14 hF
                  exact J98 j3 v5 (hj3) _ _ hP hS ls (lv_sub hl [1, 2, 3, 4, 5] rfl) hF
                · have hF := ite_f c14 hF
                  refine lv_iload hx hb dX8_judge_95 (lv_at hl 5 rfl) ?_
                  exact e_iP hx hb hr hP hS hlocks dX8_judge_97 hF
        refine lv_istore (lv' := [(5, .int (0 : Int32)), (4, .int (f_X8_rowRefusal (some i4) σ)), (3, .ref (gA G i4)), (0, .ref (gA G 0)), (1, .int x1), (2, .int x2)]) hx hb dX8_judge_35 hl (by decide) rfl (fun ls hl => ?_)
        exact J37 fu i4 (0 : Int32) (ki4) _ _ hP hS ls (lv_sub hl [3, 4, 5, 2, 0] rfl) hF
      · have hF := ite_f c5 hF
        refine lv_iload hx hb dX8_judge_31 (lv_at hl 0 rfl) ?_
        exact e_iP hx hb hr hP hS hlocks dX8_judge_33 hF
  · have hF := ite_f (b2i_e0 c1) hF
    refine lv_iconst (v := -1) hx hb dX8_judge_8 (by decide) ?_
    exact e_iP hx hb hr hP hS hlocks dX8_judge_9 hF
def f_X8_nextSeed (x0 : Int32) : Int32 := ((x0 * (1103515245 : Int32)) + (12345 : Int32))
set_option maxRecDepth 100000 in
set_option maxHeartbeats 4000000 in
theorem t_X8_nextSeed (l : Launch) (G : GT) (hG : Dw G) (x0 : Int32) (σ : St) : Ct l G yX8_nextSeed wsX8_nextSeed 0 0 [.int x0] σ (some (.int (f_X8_nextSeed x0))) σ := by
  obtain ⟨o, hF⟩ : ∃ o, f_X8_nextSeed x0 = o := ⟨_, rfl⟩
  rw [hF]
  refine Met.ofW (cc := cX8_nextSeed) (maxL := 1) (ret := (some .int)) (by decide) rfl ?_
  intro p e s m args below meth c s₁ B hml hv
  obtain ⟨rfl, hP, hK⟩ := hv
  have hx := B.exec
  have hb := B.bytes
  have hr := B.returns
  have hts := atoms_spec (ws := wsX8_nextSeed) B.pre
  have hown : s.vm.findClass RX8 = some m.cls := findClass_of_methodNamed B.named
  have hlocks := B.notSynchronized
  have Z : CallFix p m c cX8_nextSeed 1 s _ wsX8_nextSeed RX8 := ⟨hx, hb, hml, hown, hts⟩
  have hS : va_S (AG G) s.heap s.heap [] := va_S.rf
  have w1 := hts (.constant RX8 359 (1103515245)) (by decide +kernel)
  have hl := lv_entry ([.int x0]) (n := 1) (Nat.le_of_ble_eq_true rfl)
  rw [lg_entry_eq]
  generalize (lg_sl ([.int x0]) ++ List.replicate (1 - (lg_sl ([.int x0])).length) Slot.unset).toArray = ls at hl ⊢
  have hl : lv_has ls 1 [(0, .int x0)] := hl
  unfold f_X8_nextSeed at hF
  refine lv_iload_n hx hb dX8_nextSeed_0 rfl (lv_at hl 0 rfl) ?_
  refine lv_ldcw hx hb hown w1 dX8_nextSeed_1 ?_
  refine lv_imul hx hb dX8_nextSeed_4 ?_
  refine lv_sipush (v := 12345) hx hb dX8_nextSeed_5 (by decide) ?_
  refine lv_iadd hx hb dX8_nextSeed_8 ?_
  exact e_iT hx hb hr hP hS hlocks dX8_nextSeed_9 hF
def f_X8_drawBelow (x0 : Int32) (x1 : Int32) (σ : St) : Option Int32 := (if (1 : Int32) ≤ x0 then (if ¬ x0 = 0 then some (((x1 &&& (2147483647 : Int32)) / (65536 : Int32)) - ((x1 &&& (2147483647 : Int32)) / (65536 : Int32)) / x0 * x0) else none) else (some (0 : Int32)))
set_option maxRecDepth 100000 in
set_option maxHeartbeats 4000000 in
theorem t_X8_drawBelow (l : Launch) (G : GT) (hG : Dw G) (x0 : Int32) (x1 : Int32) (σ : St) (o : Int32) (hF : f_X8_drawBelow x0 x1 σ = some o) : Ct l G yX8_drawBelow wsX8_drawBelow 0 0 [.int x0, .int x1] σ (some (.int o)) σ := by
  refine Met.ofW (cc := cX8_drawBelow) (maxL := 3) (ret := (some .int)) (by decide) rfl ?_
  intro p e s m args below meth c s₁ B hml hv
  obtain ⟨rfl, hP, hK⟩ := hv
  have hx := B.exec
  have hb := B.bytes
  have hr := B.returns
  have hts := atoms_spec (ws := wsX8_drawBelow) B.pre
  have hown : s.vm.findClass RX8 = some m.cls := findClass_of_methodNamed B.named
  have hlocks := B.notSynchronized
  have Z : CallFix p m c cX8_drawBelow 3 s _ wsX8_drawBelow RX8 := ⟨hx, hb, hml, hown, hts⟩
  have hS : va_S (AG G) s.heap s.heap [] := va_S.rf
  have w1 := hts (.constant RX8 360 (2147483647)) (by decide +kernel)
  have w2 := hts (.constant RX8 361 (65536)) (by decide +kernel)
  have hl := lv_entry ([.int x0, .int x1]) (n := 3) (Nat.le_of_ble_eq_true rfl)
  rw [lg_entry_eq]
  generalize (lg_sl ([.int x0, .int x1]) ++ List.replicate (3 - (lg_sl ([.int x0, .int x1])).length) Slot.unset).toArray = ls at hl ⊢
  have hl : lv_has ls 3 [(0, .int x0), (1, .int x1)] := hl
  unfold f_X8_drawBelow at hF
  refine lv_iload_n hx hb dX8_drawBelow_0 rfl (lv_at hl 1 rfl) ?_
  refine lv_ldcw hx hb hown w1 dX8_drawBelow_1 ?_
  refine lv_iand hx hb dX8_drawBelow_4 ?_
  refine lv_ldcw hx hb hown w2 dX8_drawBelow_5 ?_
  refine lv_idiv hx hb dX8_drawBelow_8 (by decide) ?_
  refine lv_istore_n (lv' := [(2, .int ((x1 &&& (2147483647 : Int32)) / (65536 : Int32))), (0, .int x0), (1, .int x1)]) hx hb dX8_drawBelow_9 rfl hl (by decide) rfl (fun ls hl => ?_)
  refine lv_iload_n hx hb dX8_drawBelow_10 rfl (lv_at hl 1 rfl) ?_
  refine lv_iconst (v := 1) hx hb dX8_drawBelow_11 (by decide) ?_
  refine lv_icmp_ge (tgt := 19) hx hb dX8_drawBelow_12 (by decide) (fun c1 => ?_) (fun c1 => ?_)
  · have hF := ite_t c1 hF
    refine lv_iload_n hx hb dX8_drawBelow_19 rfl (lv_at hl 0 rfl) ?_
    refine lv_iload_n hx hb dX8_drawBelow_20 rfl (lv_at hl 1 rfl) ?_
    obtain ⟨b2, hF⟩ := ite_some hF
    refine lv_irem hx hb dX8_drawBelow_21 b2 ?_
    exact e_iP hx hb hr hP hS hlocks dX8_drawBelow_22 hF
  · have hF := ite_f c1 hF
    refine lv_iconst (v := 0) hx hb dX8_drawBelow_15 (by decide) ?_
    refine lv_goto (tgt := 22) hx hb dX8_drawBelow_16 (by decide) ?_
    exact e_iP hx hb hr hP hS hlocks dX8_drawBelow_22 hF
def f_X8_drawDeed (x1 : Int32) (σ : St) : Option (Int32 × St) := (ob (f_X8_drawBelow (8 : Int32) (f_X8_nextSeed x1) σ) (fun q1 => ob (f_X8_drawBelow (10 : Int32) (f_X8_nextSeed (f_X8_nextSeed x1)) σ) (fun q3 => ob (f_X8_drawBelow (365 : Int32) (f_X8_nextSeed (f_X8_nextSeed (f_X8_nextSeed x1))) σ) (fun q5 => ob (f_X8_drawBelow (5 : Int32) (f_X8_nextSeed (f_X8_nextSeed (f_X8_nextSeed (f_X8_nextSeed x1)))) σ) (fun q7 => ob (f_X8_drawBelow (32 : Int32) (f_X8_nextSeed (f_X8_nextSeed (f_X8_nextSeed (f_X8_nextSeed (f_X8_nextSeed x1))))) σ) (fun q9 => ob (f_X1_become 60 q1 q3 q5 q7 q9 σ) (fun q11 => some (f_X8_nextSeed (f_X8_nextSeed (f_X8_nextSeed (f_X8_nextSeed (f_X8_nextSeed x1)))), q11))))))))
set_option maxRecDepth 100000 in
set_option maxHeartbeats 4000000 in
theorem t_X8_drawDeed (l : Launch) (G : GT) (hG : Dw G) (x1 : Int32) (σ : St) (o : Int32 × St) (hF : f_X8_drawDeed x1 σ = some o) : Ct l G yX8_drawDeed wsX8_drawDeed 2 49 [.ref (gA G 0), .int x1] σ (some (.int o.1)) o.2 := by
  refine Met.ofW (cc := cX8_drawDeed) (maxL := 7) (ret := (some .int)) (by decide) rfl ?_
  intro p e s m args below meth c s₁ B hml hv
  obtain ⟨rfl, hP, hK⟩ := hv
  have hx := B.exec
  have hb := B.bytes
  have hr := B.returns
  have hts := atoms_spec (ws := wsX8_drawDeed) B.pre
  have hown : s.vm.findClass RX8 = some m.cls := findClass_of_methodNamed B.named
  have hlocks := B.notSynchronized
  have Z : CallFix p m c cX8_drawDeed 7 s _ wsX8_drawDeed RX8 := ⟨hx, hb, hml, hown, hts⟩
  have hS : va_S (AG G) s.heap s.heap [] := va_S.rf
  have inX8 : ∀ w ∈ u_ws RX8 TX8 7, w ∈ wsX8_drawDeed := by decide +kernel
  have w1 := hts (.fieldLink RX8 46 "AlmanacOfTheYearGone" "drawn" "LAlmanacOfTheYearGone$Deed;") (by decide +kernel)
  have w2 := hts (.initialized RX1) (by decide +kernel)
  have w3n : va_Nw (.methodLinkNest "AlmanacOfTheYearGone" 368 ⟨"AlmanacOfTheYearGone$Deed", "become", "(IIIII)V"⟩ "AlmanacOfTheYearGone") s := hK.2 _ (List.mem_of_getElem? (i := 113) rfl)
  have w3 := va_Nw.use (A := [.ref (gA G 0), .int x1].toArray) rfl w3n
  have w4 := hts (.instanceMethod yX1_become) (by decide +kernel)
  have w5 := hts (.selects RX1 yX1_become yX1_become) (by decide +kernel)
  have hl := lv_entry ([.ref (gA G 0), .int x1]) (n := 7) (Nat.le_of_ble_eq_true rfl)
  rw [lg_entry_eq]
  generalize (lg_sl ([.ref (gA G 0), .int x1]) ++ List.replicate (7 - (lg_sl ([.ref (gA G 0), .int x1])).length) Slot.unset).toArray = ls at hl ⊢
  have hl : lv_has ls 7 [(0, .ref (gA G 0)), (1, .int x1)] := hl
  unfold f_X8_drawDeed at hF
  refine lv_iload_n hx hb dX8_drawDeed_0 rfl (lv_at hl 1 rfl) ?_
  refine k_Sv (As := [.int x1]) (rest := []) Z hK hP hS (t_X8_nextSeed l G hG x1 σ) (va_cwS 1 hts gX8_drawDeed_X8_nextSeed rfl rfl rfl (by decide +kernel) ⟨Nat.le_of_ble_eq_true rfl, Nat.le_of_ble_eq_true rfl⟩) rfl hl.1 rfl (Nat.le_of_ble_eq_true rfl) ⟨Nat.zero_le _, Nat.zero_le _⟩ dX8_drawDeed_1 (fun H locs hP hS => ?_)
  refine lv_istore_n (lv' := [(2, .int (f_X8_nextSeed x1)), (0, .ref (gA G 0)), (1, .int x1)]) hx hb dX8_drawDeed_4 rfl hl (by decide) rfl (fun ls hl => ?_)
  refine lv_iload_n hx hb dX8_drawDeed_5 rfl (lv_at hl 0 rfl) ?_
  refine k_Sv (As := [.int (f_X8_nextSeed x1)]) (rest := []) Z hK hP hS (t_X8_nextSeed l G hG (f_X8_nextSeed x1) σ) (va_cwS 1 hts gX8_drawDeed_X8_nextSeed rfl rfl rfl (by decide +kernel) ⟨Nat.le_of_ble_eq_true rfl, Nat.le_of_ble_eq_true rfl⟩) rfl hl.1 rfl (Nat.le_of_ble_eq_true rfl) ⟨Nat.zero_le _, Nat.zero_le _⟩ dX8_drawDeed_6 (fun H locs hP hS => ?_)
  refine lv_istore_n (lv' := [(3, .int (f_X8_nextSeed (f_X8_nextSeed x1))), (2, .int (f_X8_nextSeed x1)), (0, .ref (gA G 0)), (1, .int x1)]) hx hb dX8_drawDeed_9 rfl hl (by decide) rfl (fun ls hl => ?_)
  refine lv_iload_n hx hb dX8_drawDeed_10 rfl (lv_at hl 0 rfl) ?_
  refine k_Sv (As := [.int (f_X8_nextSeed (f_X8_nextSeed x1))]) (rest := []) Z hK hP hS (t_X8_nextSeed l G hG (f_X8_nextSeed (f_X8_nextSeed x1)) σ) (va_cwS 1 hts gX8_drawDeed_X8_nextSeed rfl rfl rfl (by decide +kernel) ⟨Nat.le_of_ble_eq_true rfl, Nat.le_of_ble_eq_true rfl⟩) rfl hl.1 rfl (Nat.le_of_ble_eq_true rfl) ⟨Nat.zero_le _, Nat.zero_le _⟩ dX8_drawDeed_11 (fun H locs hP hS => ?_)
  refine lv_istore (lv' := [(4, .int (f_X8_nextSeed (f_X8_nextSeed (f_X8_nextSeed x1)))), (3, .int (f_X8_nextSeed (f_X8_nextSeed x1))), (2, .int (f_X8_nextSeed x1)), (0, .ref (gA G 0)), (1, .int x1)]) hx hb dX8_drawDeed_14 hl (by decide) rfl (fun ls hl => ?_)
  refine lv_iload hx hb dX8_drawDeed_16 (lv_at hl 0 rfl) ?_
  refine k_Sv (As := [.int (f_X8_nextSeed (f_X8_nextSeed (f_X8_nextSeed x1)))]) (rest := []) Z hK hP hS (t_X8_nextSeed l G hG (f_X8_nextSeed (f_X8_nextSeed (f_X8_nextSeed x1))) σ) (va_cwS 1 hts gX8_drawDeed_X8_nextSeed rfl rfl rfl (by decide +kernel) ⟨Nat.le_of_ble_eq_true rfl, Nat.le_of_ble_eq_true rfl⟩) rfl hl.1 rfl (Nat.le_of_ble_eq_true rfl) ⟨Nat.zero_le _, Nat.zero_le _⟩ dX8_drawDeed_18 (fun H locs hP hS => ?_)
  refine lv_istore (lv' := [(5, .int (f_X8_nextSeed (f_X8_nextSeed (f_X8_nextSeed (f_X8_nextSeed x1))))), (4, .int (f_X8_nextSeed (f_X8_nextSeed (f_X8_nextSeed x1)))), (3, .int (f_X8_nextSeed (f_X8_nextSeed x1))), (2, .int (f_X8_nextSeed x1)), (0, .ref (gA G 0)), (1, .int x1)]) hx hb dX8_drawDeed_21 hl (by decide) rfl (fun ls hl => ?_)
  refine lv_iload hx hb dX8_drawDeed_23 (lv_at hl 0 rfl) ?_
  refine k_Sv (As := [.int (f_X8_nextSeed (f_X8_nextSeed (f_X8_nextSeed (f_X8_nextSeed x1))))]) (rest := []) Z hK hP hS (t_X8_nextSeed l G hG (f_X8_nextSeed (f_X8_nextSeed (f_X8_nextSeed (f_X8_nextSeed x1)))) σ) (va_cwS 1 hts gX8_drawDeed_X8_nextSeed rfl rfl rfl (by decide +kernel) ⟨Nat.le_of_ble_eq_true rfl, Nat.le_of_ble_eq_true rfl⟩) rfl hl.1 rfl (Nat.le_of_ble_eq_true rfl) ⟨Nat.zero_le _, Nat.zero_le _⟩ dX8_drawDeed_25 (fun H locs hP hS => ?_)
  refine lv_istore (lv' := [(6, .int (f_X8_nextSeed (f_X8_nextSeed (f_X8_nextSeed (f_X8_nextSeed (f_X8_nextSeed x1)))))), (5, .int (f_X8_nextSeed (f_X8_nextSeed (f_X8_nextSeed (f_X8_nextSeed x1))))), (4, .int (f_X8_nextSeed (f_X8_nextSeed (f_X8_nextSeed x1)))), (3, .int (f_X8_nextSeed (f_X8_nextSeed x1))), (2, .int (f_X8_nextSeed x1)), (0, .ref (gA G 0)), (1, .int x1)]) hx hb dX8_drawDeed_28 hl (by decide) rfl (fun ls hl => ?_)
  refine lv_aload_n hx hb dX8_drawDeed_30 rfl (lv_at hl 5 rfl) ?_
  refine va_get (ci := 4) (C := RX8) (T := TX8) (N := 7) (v := .ref (gA G 60)) hx hb hts inX8 hown hK.1 hP 0 (at_4 rfl) rfl 6 (by decide) w1 (fun _ h9 => h9) rfl dX8_drawDeed_31 ?_
  refine lv_bipush (v := 8) hx hb dX8_drawDeed_34 (by decide) ?_
  refine lv_iload_n hx hb dX8_drawDeed_36 rfl (lv_at hl 4 rfl) ?_
  obtain ⟨q1, h2, hF⟩ := ob_some hF
  refine k_Sv (As := [.int (8 : Int32), .int (f_X8_nextSeed x1)]) (rest := [.ref (gA G 60)]) Z hK hP hS (t_X8_drawBelow l G hG (8 : Int32) (f_X8_nextSeed x1) σ _ h2) (va_cwS 2 hts gX8_drawDeed_X8_drawBelow rfl rfl rfl (by decide +kernel) ⟨Nat.le_of_ble_eq_true rfl, Nat.le_of_ble_eq_true rfl⟩) rfl hl.1 rfl (Nat.le_of_ble_eq_true rfl) ⟨Nat.zero_le _, Nat.zero_le _⟩ dX8_drawDeed_37 (fun H locs hP hS => ?_)
  refine lv_bipush (v := 10) hx hb dX8_drawDeed_40 (by decide) ?_
  refine lv_iload_n hx hb dX8_drawDeed_42 rfl (lv_at hl 3 rfl) ?_
  obtain ⟨q3, h4, hF⟩ := ob_some hF
  refine k_Sv (As := [.int (10 : Int32), .int (f_X8_nextSeed (f_X8_nextSeed x1))]) (rest := [.int q1, .ref (gA G 60)]) Z hK hP hS (t_X8_drawBelow l G hG (10 : Int32) (f_X8_nextSeed (f_X8_nextSeed x1)) σ _ h4) (va_cwS 2 hts gX8_drawDeed_X8_drawBelow rfl rfl rfl (by decide +kernel) ⟨Nat.le_of_ble_eq_true rfl, Nat.le_of_ble_eq_true rfl⟩) rfl hl.1 rfl (Nat.le_of_ble_eq_true rfl) ⟨Nat.zero_le _, Nat.zero_le _⟩ dX8_drawDeed_43 (fun H locs hP hS => ?_)
  refine lv_sipush (v := 365) hx hb dX8_drawDeed_46 (by decide) ?_
  refine lv_iload hx hb dX8_drawDeed_49 (lv_at hl 2 rfl) ?_
  obtain ⟨q5, h6, hF⟩ := ob_some hF
  refine k_Sv (As := [.int (365 : Int32), .int (f_X8_nextSeed (f_X8_nextSeed (f_X8_nextSeed x1)))]) (rest := [.int q3, .int q1, .ref (gA G 60)]) Z hK hP hS (t_X8_drawBelow l G hG (365 : Int32) (f_X8_nextSeed (f_X8_nextSeed (f_X8_nextSeed x1))) σ _ h6) (va_cwS 2 hts gX8_drawDeed_X8_drawBelow rfl rfl rfl (by decide +kernel) ⟨Nat.le_of_ble_eq_true rfl, Nat.le_of_ble_eq_true rfl⟩) rfl hl.1 rfl (Nat.le_of_ble_eq_true rfl) ⟨Nat.zero_le _, Nat.zero_le _⟩ dX8_drawDeed_51 (fun H locs hP hS => ?_)
  refine lv_iconst (v := 5) hx hb dX8_drawDeed_54 (by decide) ?_
  refine lv_iload hx hb dX8_drawDeed_55 (lv_at hl 1 rfl) ?_
  obtain ⟨q7, h8, hF⟩ := ob_some hF
  refine k_Sv (As := [.int (5 : Int32), .int (f_X8_nextSeed (f_X8_nextSeed (f_X8_nextSeed (f_X8_nextSeed x1))))]) (rest := [.int q5, .int q3, .int q1, .ref (gA G 60)]) Z hK hP hS (t_X8_drawBelow l G hG (5 : Int32) (f_X8_nextSeed (f_X8_nextSeed (f_X8_nextSeed (f_X8_nextSeed x1)))) σ _ h8) (va_cwS 2 hts gX8_drawDeed_X8_drawBelow rfl rfl rfl (by decide +kernel) ⟨Nat.le_of_ble_eq_true rfl, Nat.le_of_ble_eq_true rfl⟩) rfl hl.1 rfl (Nat.le_of_ble_eq_true rfl) ⟨Nat.zero_le _, Nat.zero_le _⟩ dX8_drawDeed_57 (fun H locs hP hS => ?_)
  refine lv_bipush (v := 32) hx hb dX8_drawDeed_60 (by decide) ?_
  refine lv_iload hx hb dX8_drawDeed_62 (lv_at hl 0 rfl) ?_
  obtain ⟨q9, h10, hF⟩ := ob_some hF
  refine k_Sv (As := [.int (32 : Int32), .int (f_X8_nextSeed (f_X8_nextSeed (f_X8_nextSeed (f_X8_nextSeed (f_X8_nextSeed x1)))))]) (rest := [.int q7, .int q5, .int q3, .int q1, .ref (gA G 60)]) Z hK hP hS (t_X8_drawBelow l G hG (32 : Int32) (f_X8_nextSeed (f_X8_nextSeed (f_X8_nextSeed (f_X8_nextSeed (f_X8_nextSeed x1))))) σ _ h10) (va_cwS 2 hts gX8_drawDeed_X8_drawBelow rfl rfl rfl (by decide +kernel) ⟨Nat.le_of_ble_eq_true rfl, Nat.le_of_ble_eq_true rfl⟩) rfl hl.1 rfl (Nat.le_of_ble_eq_true rfl) ⟨Nat.zero_le _, Nat.zero_le _⟩ dX8_drawDeed_64 (fun H locs hP hS => ?_)
  obtain ⟨q11, h12, hF⟩ := ob_some hF
  refine k_VN0 (As := [.int q1, .int q3, .int q5, .int q7, .int q9]) (rest := []) Z hK hP hS (t_X1_become l G hG 60 q1 q3 q5 q7 q9 (rfl : kd 60 = 1) σ _ h12) ⟨va_cnB 5 hts gX8_drawDeed_X1_become_n368 rfl rfl rfl w3n w2 (by decide +kernel) ⟨Nat.le_of_ble_eq_true rfl, Nat.le_of_ble_eq_true rfl⟩, w4, w5⟩ (at_1 (rfl : kd 60 = 1)) rfl rfl hl.1 rfl (Nat.le_of_ble_eq_true rfl) ⟨Nat.zero_le _, Nat.zero_le _⟩ dX8_drawDeed_67 (fun H locs hP hS => ?_)
  refine lv_iload hx hb dX8_drawDeed_70 (lv_at hl 0 rfl) ?_
  exact e_iS hx hb hr hP hS hlocks dX8_drawDeed_72 hF
def f_X8_years_70 (x1 : Int32) (x2 : Int32) (x3 : Int32) (rec33 : Int32 → Int32 → Int32 → Int32 → St → Option (Int32 × St)) (v4 : Int32) (v6 : Int32) (v7 : Int32) (z0 : Int32) (z1 : Int32) (τ : St) : Option (Int32 × St) := (rec33 v4 (z0 + z1) (v6 + (f_X1_size 60 τ)) (v7 + (1 : Int32)) τ)
theorem f_X8_years_70_e {x1 : Int32} {x2 : Int32} {x3 : Int32} {rec33 : Int32 → Int32 → Int32 → Int32 → St → Option (Int32 × St)} {v4 : Int32} {v6 : Int32} {v7 : Int32} {z0 : Int32} {z1 : Int32} {τ : St} : f_X8_years_70 x1 x2 x3 rec33 v4 v6 v7 z0 z1 τ = (rec33 v4 (z0 + z1) (v6 + (f_X1_size 60 τ)) (v7 + (1 : Int32)) τ) := rfl
def f_X8_years_33 (x1 : Int32) (x2 : Int32) (x3 : Int32) : Nat → (Int32 → Int32 → Int32 → Int32 → St → Option (Int32 × St))
  | 0 => fun _ _ _ _ _ => none
  | fl + 1 => fun v4 v5 v6 v7 τ => (if (x1 * (10 : Int32)) ≤ v7 then (if x3 = 0 then (some (v5, τ)) else (some (v6, τ))) else (ob (f_X8_drawDeed v4 τ) (fun q6 => if (f_X1_keepers 60 (365 : Int32) q6.2) = 0 then (f_X8_years_70 x1 x2 x3 (f_X8_years_33 x1 x2 x3 fl) q6.1 v6 v7 v5 (1 : Int32) q6.2) else (f_X8_years_70 x1 x2 x3 (f_X8_years_33 x1 x2 x3 fl) q6.1 v6 v7 v5 (0 : Int32) q6.2))))
theorem f_X8_years_33_s {x1 : Int32} {x2 : Int32} {x3 : Int32} (fl : Nat) {v4 : Int32} {v5 : Int32} {v6 : Int32} {v7 : Int32} {τ : St} : f_X8_years_33 x1 x2 x3 (fl + 1) v4 v5 v6 v7 τ = (if (x1 * (10 : Int32)) ≤ v7 then (if x3 = 0 then (some (v5, τ)) else (some (v6, τ))) else (ob (f_X8_drawDeed v4 τ) (fun q6 => if (f_X1_keepers 60 (365 : Int32) q6.2) = 0 then (f_X8_years_70 x1 x2 x3 (f_X8_years_33 x1 x2 x3 fl) q6.1 v6 v7 v5 (1 : Int32) q6.2) else (f_X8_years_70 x1 x2 x3 (f_X8_years_33 x1 x2 x3 fl) q6.1 v6 v7 v5 (0 : Int32) q6.2)))) := rfl
def f_X8_years (x1 : Int32) (x2 : Int32) (x3 : Int32) (σ : St) : Option (Int32 × St) := (if x1 < (1 : Int32) then (some ((-1 : Int32), σ)) else (if (20 : Int32) < x1 then (some ((-1 : Int32), σ)) else (if (f_X8_isBelow x3 (2 : Int32)) = true then (f_X8_years_33 x1 x2 x3 fu x2 (0 : Int32) (0 : Int32) (0 : Int32) σ) else (some ((-1 : Int32), σ)))))
set_option maxRecDepth 100000 in
set_option maxHeartbeats 4000000 in
theorem t_X8_years (l : Launch) (G : GT) (hG : Dw G) (x1 : Int32) (x2 : Int32) (x3 : Int32) (σ : St) (o : Int32 × St) (hF : f_X8_years x1 x2 x3 σ = some o) : Ct l G yX8_years wsX8_years 3 75 [.ref (gA G 0), .int x1, .int x2, .int x3] σ (some (.int o.1)) o.2 := by
  refine Met.ofW (cc := cX8_years) (maxL := 8) (ret := (some .int)) (by decide) rfl ?_
  intro p e s m args below meth c s₁ B hml hv
  obtain ⟨rfl, hP, hK⟩ := hv
  have hx := B.exec
  have hb := B.bytes
  have hr := B.returns
  have hts := atoms_spec (ws := wsX8_years) B.pre
  have hown : s.vm.findClass RX8 = some m.cls := findClass_of_methodNamed B.named
  have hlocks := B.notSynchronized
  have Z : CallFix p m c cX8_years 8 s _ wsX8_years RX8 := ⟨hx, hb, hml, hown, hts⟩
  have hS : va_S (AG G) s.heap s.heap [] := va_S.rf
  have inX8 : ∀ w ∈ u_ws RX8 TX8 7, w ∈ wsX8_years := by decide +kernel
  have w1 := hts (.fieldLink RX8 46 "AlmanacOfTheYearGone" "drawn" "LAlmanacOfTheYearGone$Deed;") (by decide +kernel)
  have w2 := hts (.initialized RX1) (by decide +kernel)
  have w3n : va_Nw (.methodLinkNest "AlmanacOfTheYearGone" 202 ⟨"AlmanacOfTheYearGone$Deed", "keepers", "(I)I"⟩ "AlmanacOfTheYearGone") s := hK.2 _ (List.mem_of_getElem? (i := 89) rfl)
  have w3 := va_Nw.use (A := [.ref (gA G 0), .int x1, .int x2, .int x3].toArray) rfl w3n
  have w4 := hts (.instanceMethod yX1_keepers) (by decide +kernel)
  have w5 := hts (.selects RX1 yX1_keepers yX1_keepers) (by decide +kernel)
  have w6n : va_Nw (.methodLinkNest "AlmanacOfTheYearGone" 103 ⟨"AlmanacOfTheYearGone$Deed", "size", "()I"⟩ "AlmanacOfTheYearGone") s := hK.2 _ (List.mem_of_getElem? (i := 53) rfl)
  have w6 := va_Nw.use (A := [.ref (gA G 0), .int x1, .int x2, .int x3].toArray) rfl w6n
  have w7 := hts (.instanceMethod yX1_size) (by decide +kernel)
  have w8 := hts (.selects RX1 yX1_size yX1_size) (by decide +kernel)
  have hl := lv_entry ([.ref (gA G 0), .int x1, .int x2, .int x3]) (n := 8) (Nat.le_of_ble_eq_true rfl)
  rw [lg_entry_eq]
  generalize (lg_sl ([.ref (gA G 0), .int x1, .int x2, .int x3]) ++ List.replicate (8 - (lg_sl ([.ref (gA G 0), .int x1, .int x2, .int x3])).length) Slot.unset).toArray = ls at hl ⊢
  have hl : lv_has ls 8 [(0, .ref (gA G 0)), (1, .int x1), (2, .int x2), (3, .int x3)] := hl
  unfold f_X8_years at hF
  refine lv_iload_n hx hb dX8_years_0 rfl (lv_at hl 1 rfl) ?_
  refine lv_iconst (v := 1) hx hb dX8_years_1 (by decide) ?_
  refine lv_icmp_lt (tgt := 19) hx hb dX8_years_2 (by decide) (fun c1 => ?_) (fun c1 => ?_)
  · have hF := ite_t c1 hF
    refine lv_iconst (v := -1) hx hb dX8_years_19 (by decide) ?_
    exact e_iS hx hb hr hP hS hlocks dX8_years_20 hF
  · have hF := ite_f c1 hF
    refine lv_iload_n hx hb dX8_years_5 rfl (lv_at hl 1 rfl) ?_
    refine lv_bipush (v := 20) hx hb dX8_years_6 (by decide) ?_
    refine lv_icmp_gt (tgt := 19) hx hb dX8_years_8 (by decide) (fun c2 => ?_) (fun c2 => ?_)
    · have hF := ite_t c2 hF
      refine lv_iconst (v := -1) hx hb dX8_years_19 (by decide) ?_
      exact e_iS hx hb hr hP hS hlocks dX8_years_20 hF
    · have hF := ite_f c2 hF
      refine lv_iload_n hx hb dX8_years_11 rfl (lv_at hl 3 rfl) ?_
      refine lv_iconst (v := 2) hx hb dX8_years_12 (by decide) ?_
      refine k_Sv (As := [.int x3, .int (2 : Int32)]) (rest := []) Z hK hP hS (t_X8_isBelow l G hG x3 (2 : Int32) σ) (va_cwS 2 hts gX8_years_X8_isBelow rfl rfl rfl (by decide +kernel) ⟨Nat.le_of_ble_eq_true rfl, Nat.le_of_ble_eq_true rfl⟩) rfl hl.1 rfl (Nat.le_of_ble_eq_true rfl) ⟨Nat.zero_le _, Nat.zero_le _⟩ dX8_years_13 (fun H locs hP hS => ?_)
      refine lv_if_ne (tgt := 21) hx hb dX8_years_16 (by decide) (fun c3 => ?_) (fun c3 => ?_)
      · have hF := ite_t (b2i_n0 c3) hF
        refine lv_iload_n hx hb dX8_years_21 rfl (lv_at hl 2 rfl) ?_
        refine lv_istore (lv' := [(4, .int x2), (0, .ref (gA G 0)), (1, .int x1), (2, .int x2), (3, .int x3)]) hx hb dX8_years_22 hl (by decide) rfl (fun ls hl => ?_)
        refine lv_iconst (v := 0) hx hb dX8_years_24 (by decide) ?_
        refine lv_istore (lv' := [(5, .int (0 : Int32)), (4, .int x2), (0, .ref (gA G 0)), (1, .int x1), (2, .int x2), (3, .int x3)]) hx hb dX8_years_25 hl (by decide) rfl (fun ls hl => ?_)
        refine lv_iconst (v := 0) hx hb dX8_years_27 (by decide) ?_
        refine lv_istore (lv' := [(6, .int (0 : Int32)), (5, .int (0 : Int32)), (4, .int x2), (0, .ref (gA G 0)), (1, .int x1), (2, .int x2), (3, .int x3)]) hx hb dX8_years_28 hl (by decide) rfl (fun ls hl => ?_)
        refine lv_iconst (v := 0) hx hb dX8_years_30 (by decide) ?_
        have J33 : ∀ (fl : Nat) (v4 : Int32) (v5 : Int32) (v6 : Int32) (v7 : Int32) (τ : St) (H : Heap) (locs : List Loc) (hP : Pw G τ H) (hS : va_S (AG G) s.heap H locs) (ls : Array Slot) (hl : lv_has ls 8 [(0, .ref (gA G 0)), (1, .int x1), (2, .int x2), (3, .int x3), (4, .int v4), (5, .int v5), (6, .int v6), (7, .int v7)]) (hF : f_X8_years_33 x1 x2 x3 fl v4 v5 v6 v7 τ = some o), W p l e (headSpec wsX8_years ({ frames := 3, cells := 0, slots := 0, locals := 75 })).room s m ([.ref (gA G 0), .int x1, .int x2, .int x3] : List Value).toArray below meth c H locs 0 0 (MQ below (qR G (some (.int o.1)) o.2) ([.ref (gA G 0), .int x1, .int x2, .int x3] : List Value).toArray s 0 0 (AG G)) (F0 m 33 ls []) := by
          intro fl33
          induction fl33 with
          | zero => intro v4 v5 v6 v7 τ H locs hP hS ls hl hF; cases hF
          | succ fl33 ih33 =>
            intro v4 v5 v6 v7 τ H locs hP hS ls hl hF
            rw [f_X8_years_33_s] at hF
            refine lv_iload hx hb dX8_years_33 (lv_at hl 7 rfl) ?_
            refine lv_iload_n hx hb dX8_years_35 rfl (lv_at hl 1 rfl) ?_
            refine lv_bipush (v := 10) hx hb dX8_years_36 (by decide) ?_
            refine lv_imul hx hb dX8_years_38 ?_
            refine lv_icmp_ge (tgt := 91) hx hb dX8_years_39 (by decide) (fun c4 => ?_) (fun c4 => ?_)
            · have hF := ite_t c4 hF
              refine lv_iload_n hx hb dX8_years_91 rfl (lv_at hl 3 rfl) ?_
              refine lv_if_ne (tgt := 100) hx hb dX8_years_92 (by decide) (fun c5 => ?_) (fun c5 => ?_)
              · have hF := ite_f c5 hF
                refine lv_iload hx hb dX8_years_100 (lv_at hl 6 rfl) ?_
                exact e_iS hx hb hr hP hS hlocks dX8_years_102 hF
              · have hF := ite_t c5 hF
                refine lv_iload hx hb dX8_years_95 (lv_at hl 5 rfl) ?_
                refine lv_goto (tgt := 102) hx hb dX8_years_97 (by decide) ?_
                exact e_iS hx hb hr hP hS hlocks dX8_years_102 hF
            · have hF := ite_f c4 hF
              refine lv_aload_n hx hb dX8_years_42 rfl (lv_at hl 0 rfl) ?_
              refine lv_iload hx hb dX8_years_43 (lv_at hl 4 rfl) ?_
              obtain ⟨q6, h7, hF⟩ := ob_some hF
              refine k_Vv (As := [.int v4]) (rest := []) Z hK hP hS (t_X8_drawDeed l G hG v4 τ _ h7) (cwV 1 hts gX8_years_X8_drawDeed rfl rfl rfl (by decide +kernel) ⟨Nat.le_of_ble_eq_true rfl, Nat.le_of_ble_eq_true rfl⟩) (at_4 rfl) rfl rfl hl.1 rfl (Nat.le_of_ble_eq_true rfl) ⟨Nat.zero_le _, Nat.zero_le _⟩ dX8_years_45 (fun H locs hP hS => ?_)
              refine lv_istore (lv' := [(4, .int q6.1), (0, .ref (gA G 0)), (1, .int x1), (2, .int x2), (3, .int x3), (5, .int v5), (6, .int v6), (7, .int v7)]) hx hb dX8_years_48 hl (by decide) rfl (fun ls hl => ?_)
              refine lv_iload hx hb dX8_years_50 (lv_at hl 5 rfl) ?_
              refine lv_aload_n hx hb dX8_years_52 rfl (lv_at hl 1 rfl) ?_
              refine va_get (ci := 4) (C := RX8) (T := TX8) (N := 7) (v := .ref (gA G 60)) hx hb hts inX8 hown hK.1 hP 0 (at_4 rfl) rfl 6 (by decide) w1 (fun _ h9 => h9) rfl dX8_years_53 ?_
              refine lv_sipush (v := 365) hx hb dX8_years_56 (by decide) ?_
              refine k_VNv (As := [.int (365 : Int32)]) (rest := [.int v5]) Z hK hP hS (t_X1_keepers l G hG 60 (365 : Int32) (rfl : kd 60 = 1) q6.2) ⟨va_cnB 1 hts gX8_years_X1_keepers_n202 rfl rfl rfl w3n w2 (by decide +kernel) ⟨Nat.le_of_ble_eq_true rfl, Nat.le_of_ble_eq_true rfl⟩, w4, w5⟩ (at_1 (rfl : kd 60 = 1)) rfl rfl hl.1 rfl (Nat.le_of_ble_eq_true rfl) ⟨Nat.zero_le _, Nat.zero_le _⟩ dX8_years_59 (fun H locs hP hS => ?_)
              have J70 : ∀ (v4 : Int32) (v6 : Int32) (v7 : Int32) (z0 : Int32) (z1 : Int32) (τ : St) (H : Heap) (locs : List Loc) (hP : Pw G τ H) (hS : va_S (AG G) s.heap H locs) (ls : Array Slot) (hl : lv_has ls 8 [(0, .ref (gA G 0)), (1, .int x1), (2, .int x2), (3, .int x3), (4, .int v4), (6, .int v6), (7, .int v7)]) (hF : f_X8_years_70 x1 x2 x3 (f_X8_years_33 x1 x2 x3 fl33) v4 v6 v7 z0 z1 τ = some o), W p l e (headSpec wsX8_years ({ frames := 3, cells := 0, slots := 0, locals := 75 })).room s m ([.ref (gA G 0), .int x1, .int x2, .int x3] : List Value).toArray below meth c H locs 0 0 (MQ below (qR G (some (.int o.1)) o.2) ([.ref (gA G 0), .int x1, .int x2, .int x3] : List Value).toArray s 0 0 (AG G)) (F0 m 70 ls [.int z1, .int z0]) := by
                intro v4 v6 v7 z0 z1 τ H locs hP hS ls hl hF
                rw [f_X8_years_70_e] at hF
                refine lv_iadd hx hb dX8_years_70 ?_
                refine lv_istore (lv' := [(5, .int (z0 + z1)), (0, .ref (gA G 0)), (1, .int x1), (2, .int x2), (3, .int x3), (4, .int v4), (6, .int v6), (7, .int v7)]) hx hb dX8_years_71 hl (by decide) rfl (fun ls hl => ?_)
                refine lv_iload hx hb dX8_years_73 (lv_at hl 6 rfl) ?_
                refine lv_aload_n hx hb dX8_years_75 rfl (lv_at hl 1 rfl) ?_
                refine va_get (ci := 4) (C := RX8) (T := TX8) (N := 7) (v := .ref (gA G 60)) hx hb hts inX8 hown hK.1 hP 0 (at_4 rfl) rfl 6 (by decide) w1 (fun _ h9 => h9) rfl dX8_years_76 ?_
                refine k_VNv (As := []) (rest := [.int v6]) Z hK hP hS (t_X1_size l G hG 60 (rfl : kd 60 = 1) τ) ⟨va_cnB 0 hts gX8_years_X1_size_n103 rfl rfl rfl w6n w2 (by decide +kernel) ⟨Nat.le_of_ble_eq_true rfl, Nat.le_of_ble_eq_true rfl⟩, w7, w8⟩ (at_1 (rfl : kd 60 = 1)) rfl rfl hl.1 rfl (Nat.le_of_ble_eq_true rfl) ⟨Nat.zero_le _, Nat.zero_le _⟩ dX8_years_79 (fun H locs hP hS => ?_)
                refine lv_iadd hx hb dX8_years_82 ?_
                refine lv_istore (lv' := [(6, .int (v6 + (f_X1_size 60 τ))), (5, .int (z0 + z1)), (0, .ref (gA G 0)), (1, .int x1), (2, .int x2), (3, .int x3), (4, .int v4), (7, .int v7)]) hx hb dX8_years_83 hl (by decide) rfl (fun ls hl => ?_)
                refine lv_iinc (v := (v7 + (1 : Int32))) (lv' := [(7, .int (v7 + (1 : Int32))), (6, .int (v6 + (f_X1_size 60 τ))), (5, .int (z0 + z1)), (0, .ref (gA G 0)), (1, .int x1), (2, .int x2), (3, .int x3), (4, .int v4)]) hx hb dX8_years_85 hl (k := 7) rfl rfl (by decide) rfl (fun ls hl => ?_)
                refine lv_goto (tgt := 33) hx hb dX8_years_88 (by decide) ?_
                exact ih33 v4 (z0 + z1) (v6 + (f_X1_size 60 τ)) (v7 + (1 : Int32)) τ _ _ hP hS ls (lv_sub hl [3, 4, 5, 6, 7, 2, 1, 0] rfl) hF
              refine lv_if_ne (tgt := 69) hx hb dX8_years_62 (by decide) (fun c8 => ?_) (fun c8 => ?_)
              · have hF := ite_f c8 hF
                refine lv_iconst (v := 0) hx hb dX8_years_69 (by decide) ?_
                exact J70 q6.1 v6 v7 v5 (0 : Int32) q6.2 _ _ hP hS ls (lv_sub hl [1, 2, 3, 4, 0, 6, 7] rfl) hF
              · have hF := ite_t c8 hF
                refine lv_iconst (v := 1) hx hb dX8_years_65 (by decide) ?_
                refine lv_goto (tgt := 70) hx hb dX8_years_66 (by decide) ?_
                exact J70 q6.1 v6 v7 v5 (1 : Int32) q6.2 _ _ hP hS ls (lv_sub hl [1, 2, 3, 4, 0, 6, 7] rfl) hF
        refine lv_istore (lv' := [(7, .int (0 : Int32)), (6, .int (0 : Int32)), (5, .int (0 : Int32)), (4, .int x2), (0, .ref (gA G 0)), (1, .int x1), (2, .int x2), (3, .int x3)]) hx hb dX8_years_31 hl (by decide) rfl (fun ls hl => ?_)
        exact J33 fu x2 (0 : Int32) (0 : Int32) (0 : Int32) σ _ _ hP hS ls (lv_sub hl [4, 5, 6, 7, 3, 2, 1, 0] rfl) hF
      · have hF := ite_f (b2i_e0 c3) hF
        refine lv_iconst (v := -1) hx hb dX8_years_19 (by decide) ?_
        exact e_iS hx hb hr hP hS hlocks dX8_years_20 hF
def f_X8_image (σ : St) : Option (Int32 × St) := (ob (f_X7_become 47 21 σ) (fun q1 => some ((up q1 0 5 (1 : Int32)) 21 2, up q1 0 5 (1 : Int32))))
set_option maxRecDepth 100000 in
set_option maxHeartbeats 4000000 in
theorem t_X8_image (l : Launch) (G : GT) (hG : Dw G) (σ : St) (o : Int32 × St) (hF : f_X8_image σ = some o) : Ct l G yX8_image wsX8_image 4 97 [.ref (gA G 0)] σ (some (.int o.1)) o.2 := by
  refine Met.ofW (cc := cX8_image) (maxL := 1) (ret := (some .int)) (by decide) rfl ?_
  intro p e s m args below meth c s₁ B hml hv
  obtain ⟨rfl, hP, hK⟩ := hv
  have hx := B.exec
  have hb := B.bytes
  have hr := B.returns
  have hts := atoms_spec (ws := wsX8_image) B.pre
  have hown : s.vm.findClass RX8 = some m.cls := findClass_of_methodNamed B.named
  have hlocks := B.notSynchronized
  have Z : CallFix p m c cX8_image 1 s _ wsX8_image RX8 := ⟨hx, hb, hml, hown, hts⟩
  have hS : va_S (AG G) s.heap s.heap [] := va_S.rf
  have inX8 : ∀ w ∈ u_ws RX8 TX8 7, w ∈ wsX8_image := by decide +kernel
  have inX7 : ∀ w ∈ u_ws RX7 TX7 4, w ∈ wsX8_image := by decide +kernel
  have w1 := hts (.fieldLink RX8 36 "AlmanacOfTheYearGone" "held" "LAlmanacOfTheYearGone$Year;") (by decide +kernel)
  have w2 := hts (.fieldLink RX8 27 "AlmanacOfTheYearGone" "now" "LAlmanacOfTheYearGone$Year;") (by decide +kernel)
  have w3 := hts (.initialized RX7) (by decide +kernel)
  have w4n : va_Nw (.methodLinkNest "AlmanacOfTheYearGone" 67 ⟨"AlmanacOfTheYearGone$Year", "become", "(LAlmanacOfTheYearGone$Year;)V"⟩ "AlmanacOfTheYearGone") s := hK.2 _ (List.mem_of_getElem? (i := 42) rfl)
  have w4 := va_Nw.use (A := [.ref (gA G 0)].toArray) rfl w4n
  have w5 := hts (.instanceMethod yX7_become) (by decide +kernel)
  have w6 := hts (.selects RX7 yX7_become yX7_become) (by decide +kernel)
  have w7 := hts (.fieldLink RX8 39 "AlmanacOfTheYearGone" "hasImage" "Z") (by decide +kernel)
  have w8n : va_Nw (.fieldLinkNest "AlmanacOfTheYearGone" 127 "AlmanacOfTheYearGone$Year" "deedCount" "I" "AlmanacOfTheYearGone") s := hK.2 _ (List.mem_of_getElem? (i := 26) rfl)
  have w8 := va_Nw.use (A := [.ref (gA G 0)].toArray) rfl w8n
  have hl := lv_entry ([.ref (gA G 0)]) (n := 1) (Nat.le_of_ble_eq_true rfl)
  rw [lg_entry_eq]
  generalize (lg_sl ([.ref (gA G 0)]) ++ List.replicate (1 - (lg_sl ([.ref (gA G 0)])).length) Slot.unset).toArray = ls at hl ⊢
  have hl : lv_has ls 1 [(0, .ref (gA G 0))] := hl
  unfold f_X8_image at hF
  refine lv_aload_n hx hb dX8_image_0 rfl (lv_at hl 0 rfl) ?_
  refine va_get (ci := 4) (C := RX8) (T := TX8) (N := 7) (v := .ref (gA G 47)) hx hb hts inX8 hown hK.1 hP 0 (at_4 rfl) rfl 4 (by decide) w1 (fun _ h9 => h9) rfl dX8_image_1 ?_
  refine lv_aload_n hx hb dX8_image_4 rfl (lv_at hl 0 rfl) ?_
  refine va_get (ci := 4) (C := RX8) (T := TX8) (N := 7) (v := .ref (gA G 21)) hx hb hts inX8 hown hK.1 hP 0 (at_4 rfl) rfl 2 (by decide) w2 (fun _ h9 => h9) rfl dX8_image_5 ?_
  obtain ⟨q1, h2, hF⟩ := ob_some hF
  refine k_VN0 (As := [.ref (gA G 21)]) (rest := []) Z hK hP hS (t_X7_become l G hG 47 21 (rfl : kd 47 = 3) (rfl : kd 21 = 3) σ _ h2) ⟨va_cnB 1 hts gX8_image_X7_become_n67 rfl rfl rfl w4n w3 (by decide +kernel) ⟨Nat.le_of_ble_eq_true rfl, Nat.le_of_ble_eq_true rfl⟩, w5, w6⟩ (at_3 (rfl : kd 47 = 3)) rfl rfl hl.1 rfl (Nat.le_of_ble_eq_true rfl) ⟨Nat.zero_le _, Nat.zero_le _⟩ dX8_image_8 (fun H locs hP hS => ?_)
  refine lv_aload_n hx hb dX8_image_11 rfl (lv_at hl 0 rfl) ?_
  refine lv_iconst (v := 1) hx hb dX8_image_12 (by decide) ?_
  refine va_put (ci := 4) (C := RX8) (T := TX8) (N := 7) (v := .int (1 : Int32)) (ty := .boolean) hx hb hts inX8 tyX8 tyX8_ok nmX8 hown hK.1 hP (Dw.D hG) hS 0 (at_4 rfl) rfl 5 (by decide) w7 (fun _ h9 => h9) rfl (by decide +kernel) rfl rfl (Nat.le_of_ble_eq_true rfl) dX8_image_13 (fun H locs hP _ hS => ?_)
  have hP := Pw.of hP (set_4_5 rfl)
  refine lv_aload_n hx hb dX8_image_16 rfl (lv_at hl 0 rfl) ?_
  refine va_get (ci := 4) (C := RX8) (T := TX8) (N := 7) (v := .ref (gA G 21)) hx hb hts inX8 hown hK.1 hP 0 (at_4 rfl) rfl 2 (by decide) w2 (fun _ h9 => h9) rfl dX8_image_17 ?_
  refine va_getN (ci := 3) (C := RX7) (T := TX7) (N := 4) (v := .int ((up q1 0 5 (1 : Int32)) 21 2)) hx hb hts inX7 hown hK.1 hP 21 (at_3 (rfl : kd 21 = 3)) rfl 2 (by decide) w8 (fun _ h9 => h9) rfl dX8_image_20 ?_
  exact e_iS hx hb hr hP hS hlocks dX8_image_23 hF
def f_X8_restore (σ : St) : Option (Int32 × St) := (if (σ 0 5) = 0 then (some ((-3 : Int32), σ)) else (ob (f_X7_become 21 47 σ) (fun q2 => some (q2 21 2, q2))))
set_option maxRecDepth 100000 in
set_option maxHeartbeats 4000000 in
theorem t_X8_restore (l : Launch) (G : GT) (hG : Dw G) (σ : St) (o : Int32 × St) (hF : f_X8_restore σ = some o) : Ct l G yX8_restore wsX8_restore 4 97 [.ref (gA G 0)] σ (some (.int o.1)) o.2 := by
  refine Met.ofW (cc := cX8_restore) (maxL := 1) (ret := (some .int)) (by decide) rfl ?_
  intro p e s m args below meth c s₁ B hml hv
  obtain ⟨rfl, hP, hK⟩ := hv
  have hx := B.exec
  have hb := B.bytes
  have hr := B.returns
  have hts := atoms_spec (ws := wsX8_restore) B.pre
  have hown : s.vm.findClass RX8 = some m.cls := findClass_of_methodNamed B.named
  have hlocks := B.notSynchronized
  have Z : CallFix p m c cX8_restore 1 s _ wsX8_restore RX8 := ⟨hx, hb, hml, hown, hts⟩
  have hS : va_S (AG G) s.heap s.heap [] := va_S.rf
  have inX8 : ∀ w ∈ u_ws RX8 TX8 7, w ∈ wsX8_restore := by decide +kernel
  have inX7 : ∀ w ∈ u_ws RX7 TX7 4, w ∈ wsX8_restore := by decide +kernel
  have w1 := hts (.fieldLink RX8 39 "AlmanacOfTheYearGone" "hasImage" "Z") (by decide +kernel)
  have w2 := hts (.fieldLink RX8 27 "AlmanacOfTheYearGone" "now" "LAlmanacOfTheYearGone$Year;") (by decide +kernel)
  have w3 := hts (.fieldLink RX8 36 "AlmanacOfTheYearGone" "held" "LAlmanacOfTheYearGone$Year;") (by decide +kernel)
  have w4 := hts (.initialized RX7) (by decide +kernel)
  have w5n : va_Nw (.methodLinkNest "AlmanacOfTheYearGone" 67 ⟨"AlmanacOfTheYearGone$Year", "become", "(LAlmanacOfTheYearGone$Year;)V"⟩ "AlmanacOfTheYearGone") s := hK.2 _ (List.mem_of_getElem? (i := 42) rfl)
  have w5 := va_Nw.use (A := [.ref (gA G 0)].toArray) rfl w5n
  have w6 := hts (.instanceMethod yX7_become) (by decide +kernel)
  have w7 := hts (.selects RX7 yX7_become yX7_become) (by decide +kernel)
  have w8n : va_Nw (.fieldLinkNest "AlmanacOfTheYearGone" 127 "AlmanacOfTheYearGone$Year" "deedCount" "I" "AlmanacOfTheYearGone") s := hK.2 _ (List.mem_of_getElem? (i := 26) rfl)
  have w8 := va_Nw.use (A := [.ref (gA G 0)].toArray) rfl w8n
  have hl := lv_entry ([.ref (gA G 0)]) (n := 1) (Nat.le_of_ble_eq_true rfl)
  rw [lg_entry_eq]
  generalize (lg_sl ([.ref (gA G 0)]) ++ List.replicate (1 - (lg_sl ([.ref (gA G 0)])).length) Slot.unset).toArray = ls at hl ⊢
  have hl : lv_has ls 1 [(0, .ref (gA G 0))] := hl
  unfold f_X8_restore at hF
  refine lv_aload_n hx hb dX8_restore_0 rfl (lv_at hl 0 rfl) ?_
  refine va_get (ci := 4) (C := RX8) (T := TX8) (N := 7) (v := .int (σ 0 5)) hx hb hts inX8 hown hK.1 hP 0 (at_4 rfl) rfl 5 (by decide) w1 (fun _ h9 => h9) rfl dX8_restore_1 ?_
  refine lv_if_ne (tgt := 10) hx hb dX8_restore_4 (by decide) (fun c1 => ?_) (fun c1 => ?_)
  · have hF := ite_f c1 hF
    refine lv_aload_n hx hb dX8_restore_10 rfl (lv_at hl 0 rfl) ?_
    refine va_get (ci := 4) (C := RX8) (T := TX8) (N := 7) (v := .ref (gA G 21)) hx hb hts inX8 hown hK.1 hP 0 (at_4 rfl) rfl 2 (by decide) w2 (fun _ h9 => h9) rfl dX8_restore_11 ?_
    refine lv_aload_n hx hb dX8_restore_14 rfl (lv_at hl 0 rfl) ?_
    refine va_get (ci := 4) (C := RX8) (T := TX8) (N := 7) (v := .ref (gA G 47)) hx hb hts inX8 hown hK.1 hP 0 (at_4 rfl) rfl 4 (by decide) w3 (fun _ h9 => h9) rfl dX8_restore_15 ?_
    obtain ⟨q2, h3, hF⟩ := ob_some hF
    refine k_VN0 (As := [.ref (gA G 47)]) (rest := []) Z hK hP hS (t_X7_become l G hG 21 47 (rfl : kd 21 = 3) (rfl : kd 47 = 3) σ _ h3) ⟨va_cnB 1 hts gX8_restore_X7_become_n67 rfl rfl rfl w5n w4 (by decide +kernel) ⟨Nat.le_of_ble_eq_true rfl, Nat.le_of_ble_eq_true rfl⟩, w6, w7⟩ (at_3 (rfl : kd 21 = 3)) rfl rfl hl.1 rfl (Nat.le_of_ble_eq_true rfl) ⟨Nat.zero_le _, Nat.zero_le _⟩ dX8_restore_18 (fun H locs hP hS => ?_)
    refine lv_aload_n hx hb dX8_restore_21 rfl (lv_at hl 0 rfl) ?_
    refine va_get (ci := 4) (C := RX8) (T := TX8) (N := 7) (v := .ref (gA G 21)) hx hb hts inX8 hown hK.1 hP 0 (at_4 rfl) rfl 2 (by decide) w2 (fun _ h9 => h9) rfl dX8_restore_22 ?_
    refine va_getN (ci := 3) (C := RX7) (T := TX7) (N := 4) (v := .int (q2 21 2)) hx hb hts inX7 hown hK.1 hP 21 (at_3 (rfl : kd 21 = 3)) rfl 2 (by decide) w8 (fun _ h9 => h9) rfl dX8_restore_25 ?_
    exact e_iS hx hb hr hP hS hlocks dX8_restore_28 hF
  · have hF := ite_t c1 hF
    refine lv_bipush (v := -3) hx hb dX8_restore_7 (by decide) ?_
    exact e_iS hx hb hr hP hS hlocks dX8_restore_9 hF
def f_X8_count (x1 : Int32) (σ : St) : Option Int32 := (if x1 = (0 : Int32) then (some (σ 21 2)) else if x1 = (1 : Int32) then (some (σ 21 3)) else if x1 = (2 : Int32) then (ob (f_X7_sizesBut 21 (0 : Int32) σ) (fun q4 => some q4)) else if x1 = (3 : Int32) then (ob (f_X7_toldCount 21 σ) (fun q7 => some q7)) else if x1 = (4 : Int32) then (ob (f_X7_allLasting 21 σ) (fun q10 => some q10)) else if x1 = (5 : Int32) then (ob (f_X7_allSeen 21 σ) (fun q13 => some q13)) else (some (-1 : Int32)))
set_option maxRecDepth 100000 in
set_option maxHeartbeats 4000000 in
theorem t_X8_count (l : Launch) (G : GT) (hG : Dw G) (x1 : Int32) (σ : St) (o : Int32) (hF : f_X8_count x1 σ = some o) : Ct l G yX8_count wsX8_count 3 67 [.ref (gA G 0), .int x1] σ (some (.int o)) σ := by
  refine Met.ofW (cc := cX8_count) (maxL := 2) (ret := (some .int)) (by decide) rfl ?_
  intro p e s m args below meth c s₁ B hml hv
  obtain ⟨rfl, hP, hK⟩ := hv
  have hx := B.exec
  have hb := B.bytes
  have hr := B.returns
  have hts := atoms_spec (ws := wsX8_count) B.pre
  have hown : s.vm.findClass RX8 = some m.cls := findClass_of_methodNamed B.named
  have hlocks := B.notSynchronized
  have Z : CallFix p m c cX8_count 2 s _ wsX8_count RX8 := ⟨hx, hb, hml, hown, hts⟩
  have hS : va_S (AG G) s.heap s.heap [] := va_S.rf
  have inX8 : ∀ w ∈ u_ws RX8 TX8 7, w ∈ wsX8_count := by decide +kernel
  have inX7 : ∀ w ∈ u_ws RX7 TX7 4, w ∈ wsX8_count := by decide +kernel
  have w1 := hts (.fieldLink RX8 27 "AlmanacOfTheYearGone" "now" "LAlmanacOfTheYearGone$Year;") (by decide +kernel)
  have w2n : va_Nw (.fieldLinkNest "AlmanacOfTheYearGone" 127 "AlmanacOfTheYearGone$Year" "deedCount" "I" "AlmanacOfTheYearGone") s := hK.2 _ (List.mem_of_getElem? (i := 26) rfl)
  have w2 := va_Nw.use (A := [.ref (gA G 0), .int x1].toArray) rfl w2n
  have w3n : va_Nw (.fieldLinkNest "AlmanacOfTheYearGone" 134 "AlmanacOfTheYearGone$Year" "day" "I" "AlmanacOfTheYearGone") s := hK.2 _ (List.mem_of_getElem? (i := 27) rfl)
  have w3 := va_Nw.use (A := [.ref (gA G 0), .int x1].toArray) rfl w3n
  have w4 := hts (.initialized RX7) (by decide +kernel)
  have w5n : va_Nw (.methodLinkNest "AlmanacOfTheYearGone" 222 ⟨"AlmanacOfTheYearGone$Year", "sizesBut", "(I)I"⟩ "AlmanacOfTheYearGone") s := hK.2 _ (List.mem_of_getElem? (i := 96) rfl)
  have w5 := va_Nw.use (A := [.ref (gA G 0), .int x1].toArray) rfl w5n
  have w6 := hts (.instanceMethod yX7_sizesBut) (by decide +kernel)
  have w7 := hts (.selects RX7 yX7_sizesBut yX7_sizesBut) (by decide +kernel)
  have w8n : va_Nw (.methodLinkNest "AlmanacOfTheYearGone" 253 ⟨"AlmanacOfTheYearGone$Year", "toldCount", "()I"⟩ "AlmanacOfTheYearGone") s := hK.2 _ (List.mem_of_getElem? (i := 103) rfl)
  have w8 := va_Nw.use (A := [.ref (gA G 0), .int x1].toArray) rfl w8n
  have w9 := hts (.instanceMethod yX7_toldCount) (by decide +kernel)
  have w10 := hts (.selects RX7 yX7_toldCount yX7_toldCount) (by decide +kernel)
  have w11n : va_Nw (.methodLinkNest "AlmanacOfTheYearGone" 288 ⟨"AlmanacOfTheYearGone$Year", "allLasting", "()I"⟩ "AlmanacOfTheYearGone") s := hK.2 _ (List.mem_of_getElem? (i := 114) rfl)
  have w11 := va_Nw.use (A := [.ref (gA G 0), .int x1].toArray) rfl w11n
  have w12 := hts (.instanceMethod yX7_allLasting) (by decide +kernel)
  have w13 := hts (.selects RX7 yX7_allLasting yX7_allLasting) (by decide +kernel)
  have w14n : va_Nw (.methodLinkNest "AlmanacOfTheYearGone" 291 ⟨"AlmanacOfTheYearGone$Year", "allSeen", "()I"⟩ "AlmanacOfTheYearGone") s := hK.2 _ (List.mem_of_getElem? (i := 115) rfl)
  have w14 := va_Nw.use (A := [.ref (gA G 0), .int x1].toArray) rfl w14n
  have w15 := hts (.instanceMethod yX7_allSeen) (by decide +kernel)
  have w16 := hts (.selects RX7 yX7_allSeen yX7_allSeen) (by decide +kernel)
  have hl := lv_entry ([.ref (gA G 0), .int x1]) (n := 2) (Nat.le_of_ble_eq_true rfl)
  rw [lg_entry_eq]
  generalize (lg_sl ([.ref (gA G 0), .int x1]) ++ List.replicate (2 - (lg_sl ([.ref (gA G 0), .int x1])).length) Slot.unset).toArray = ls at hl ⊢
  have hl : lv_has ls 2 [(0, .ref (gA G 0)), (1, .int x1)] := hl
  unfold f_X8_count at hF
  refine lv_iload_n hx hb dX8_count_0 rfl (lv_at hl 1 rfl) ?_
  by_cases c1 : x1 = (0 : Int32)
  · have hF := ite_t c1 hF
    refine lv_tableIn (off := 39) (tgt := 40) hx hb dX8_count_1 (by rw [c1]; decide) (by rw [c1]; decide) (by rw [c1]; rfl) (by decide) ?_
    refine lv_aload_n hx hb dX8_count_40 rfl (lv_at hl 0 rfl) ?_
    refine va_get (ci := 4) (C := RX8) (T := TX8) (N := 7) (v := .ref (gA G 21)) hx hb hts inX8 hown hK.1 hP 0 (at_4 rfl) rfl 2 (by decide) w1 (fun _ h9 => h9) rfl dX8_count_41 ?_
    refine va_getN (ci := 3) (C := RX7) (T := TX7) (N := 4) (v := .int (σ 21 2)) hx hb hts inX7 hown hK.1 hP 21 (at_3 (rfl : kd 21 = 3)) rfl 2 (by decide) w2 (fun _ h9 => h9) rfl dX8_count_44 ?_
    exact e_iP hx hb hr hP hS hlocks dX8_count_47 hF
  · have hF := ite_f c1 hF
    by_cases c2 : x1 = (1 : Int32)
    · have hF := ite_t c2 hF
      refine lv_tableIn (off := 47) (tgt := 48) hx hb dX8_count_1 (by rw [c2]; decide) (by rw [c2]; decide) (by rw [c2]; rfl) (by decide) ?_
      refine lv_aload_n hx hb dX8_count_48 rfl (lv_at hl 0 rfl) ?_
      refine va_get (ci := 4) (C := RX8) (T := TX8) (N := 7) (v := .ref (gA G 21)) hx hb hts inX8 hown hK.1 hP 0 (at_4 rfl) rfl 2 (by decide) w1 (fun _ h9 => h9) rfl dX8_count_49 ?_
      refine va_getN (ci := 3) (C := RX7) (T := TX7) (N := 4) (v := .int (σ 21 3)) hx hb hts inX7 hown hK.1 hP 21 (at_3 (rfl : kd 21 = 3)) rfl 3 (by decide) w3 (fun _ h9 => h9) rfl dX8_count_52 ?_
      exact e_iP hx hb hr hP hS hlocks dX8_count_55 hF
    · have hF := ite_f c2 hF
      by_cases c3 : x1 = (2 : Int32)
      · have hF := ite_t c3 hF
        refine lv_tableIn (off := 55) (tgt := 56) hx hb dX8_count_1 (by rw [c3]; decide) (by rw [c3]; decide) (by rw [c3]; rfl) (by decide) ?_
        refine lv_aload_n hx hb dX8_count_56 rfl (lv_at hl 0 rfl) ?_
        refine va_get (ci := 4) (C := RX8) (T := TX8) (N := 7) (v := .ref (gA G 21)) hx hb hts inX8 hown hK.1 hP 0 (at_4 rfl) rfl 2 (by decide) w1 (fun _ h9 => h9) rfl dX8_count_57 ?_
        refine lv_iconst (v := 0) hx hb dX8_count_60 (by decide) ?_
        obtain ⟨q4, h5, hF⟩ := ob_some hF
        refine k_VNv (As := [.int (0 : Int32)]) (rest := []) Z hK hP hS (t_X7_sizesBut l G hG 21 (0 : Int32) (rfl : kd 21 = 3) σ _ h5) ⟨va_cnB 1 hts gX8_count_X7_sizesBut_n222 rfl rfl rfl w5n w4 (by decide +kernel) ⟨Nat.le_of_ble_eq_true rfl, Nat.le_of_ble_eq_true rfl⟩, w6, w7⟩ (at_3 (rfl : kd 21 = 3)) rfl rfl hl.1 rfl (Nat.le_of_ble_eq_true rfl) ⟨Nat.zero_le _, Nat.zero_le _⟩ dX8_count_61 (fun H locs hP hS => ?_)
        exact e_iP hx hb hr hP hS hlocks dX8_count_64 hF
      · have hF := ite_f c3 hF
        by_cases c6 : x1 = (3 : Int32)
        · have hF := ite_t c6 hF
          refine lv_tableIn (off := 64) (tgt := 65) hx hb dX8_count_1 (by rw [c6]; decide) (by rw [c6]; decide) (by rw [c6]; rfl) (by decide) ?_
          refine lv_aload_n hx hb dX8_count_65 rfl (lv_at hl 0 rfl) ?_
          refine va_get (ci := 4) (C := RX8) (T := TX8) (N := 7) (v := .ref (gA G 21)) hx hb hts inX8 hown hK.1 hP 0 (at_4 rfl) rfl 2 (by decide) w1 (fun _ h9 => h9) rfl dX8_count_66 ?_
          obtain ⟨q7, h8, hF⟩ := ob_some hF
          refine k_VNv (As := []) (rest := []) Z hK hP hS (t_X7_toldCount l G hG 21 (rfl : kd 21 = 3) σ _ h8) ⟨va_cnB 0 hts gX8_count_X7_toldCount_n253 rfl rfl rfl w8n w4 (by decide +kernel) ⟨Nat.le_of_ble_eq_true rfl, Nat.le_of_ble_eq_true rfl⟩, w9, w10⟩ (at_3 (rfl : kd 21 = 3)) rfl rfl hl.1 rfl (Nat.le_of_ble_eq_true rfl) ⟨Nat.zero_le _, Nat.zero_le _⟩ dX8_count_69 (fun H locs hP hS => ?_)
          exact e_iP hx hb hr hP hS hlocks dX8_count_72 hF
        · have hF := ite_f c6 hF
          by_cases c9 : x1 = (4 : Int32)
          · have hF := ite_t c9 hF
            refine lv_tableIn (off := 72) (tgt := 73) hx hb dX8_count_1 (by rw [c9]; decide) (by rw [c9]; decide) (by rw [c9]; rfl) (by decide) ?_
            refine lv_aload_n hx hb dX8_count_73 rfl (lv_at hl 0 rfl) ?_
            refine va_get (ci := 4) (C := RX8) (T := TX8) (N := 7) (v := .ref (gA G 21)) hx hb hts inX8 hown hK.1 hP 0 (at_4 rfl) rfl 2 (by decide) w1 (fun _ h9 => h9) rfl dX8_count_74 ?_
            obtain ⟨q10, h11, hF⟩ := ob_some hF
            refine k_VNv (As := []) (rest := []) Z hK hP hS (t_X7_allLasting l G hG 21 (rfl : kd 21 = 3) σ _ h11) ⟨va_cnB 0 hts gX8_count_X7_allLasting_n288 rfl rfl rfl w11n w4 (by decide +kernel) ⟨Nat.le_of_ble_eq_true rfl, Nat.le_of_ble_eq_true rfl⟩, w12, w13⟩ (at_3 (rfl : kd 21 = 3)) rfl rfl hl.1 rfl (Nat.le_of_ble_eq_true rfl) ⟨Nat.zero_le _, Nat.zero_le _⟩ dX8_count_77 (fun H locs hP hS => ?_)
            exact e_iP hx hb hr hP hS hlocks dX8_count_80 hF
          · have hF := ite_f c9 hF
            by_cases c12 : x1 = (5 : Int32)
            · have hF := ite_t c12 hF
              refine lv_tableIn (off := 80) (tgt := 81) hx hb dX8_count_1 (by rw [c12]; decide) (by rw [c12]; decide) (by rw [c12]; rfl) (by decide) ?_
              refine lv_aload_n hx hb dX8_count_81 rfl (lv_at hl 0 rfl) ?_
              refine va_get (ci := 4) (C := RX8) (T := TX8) (N := 7) (v := .ref (gA G 21)) hx hb hts inX8 hown hK.1 hP 0 (at_4 rfl) rfl 2 (by decide) w1 (fun _ h9 => h9) rfl dX8_count_82 ?_
              obtain ⟨q13, h14, hF⟩ := ob_some hF
              refine k_VNv (As := []) (rest := []) Z hK hP hS (t_X7_allSeen l G hG 21 (rfl : kd 21 = 3) σ _ h14) ⟨va_cnB 0 hts gX8_count_X7_allSeen_n291 rfl rfl rfl w14n w4 (by decide +kernel) ⟨Nat.le_of_ble_eq_true rfl, Nat.le_of_ble_eq_true rfl⟩, w15, w16⟩ (at_3 (rfl : kd 21 = 3)) rfl rfl hl.1 rfl (Nat.le_of_ble_eq_true rfl) ⟨Nat.zero_le _, Nat.zero_le _⟩ dX8_count_85 (fun H locs hP hS => ?_)
              exact e_iP hx hb hr hP hS hlocks dX8_count_88 hF
            · have hF := ite_f c12 hF
              have n0 := lv_neT c1 (by decide : ((0 : Int32)).toInt = 0)
              have n1 := lv_neT c2 (by decide : ((1 : Int32)).toInt = 1)
              have n2 := lv_neT c3 (by decide : ((2 : Int32)).toInt = 2)
              have n3 := lv_neT c6 (by decide : ((3 : Int32)).toInt = 3)
              have n4 := lv_neT c9 (by decide : ((4 : Int32)).toInt = 4)
              have n5 := lv_neT c12 (by decide : ((5 : Int32)).toInt = 5)
              refine lv_tableOut (tgt := 89) hx hb dX8_count_1 (by omega) (by decide) ?_
              refine lv_iconst (v := -1) hx hb dX8_count_89 (by decide) ?_
              exact e_iP hx hb hr hP hS hlocks dX8_count_90 hF
