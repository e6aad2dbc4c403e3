def f_X5_number_5 (i0 : Nat) (x1 : Int32) (x2 : Int32) (σ : St) : Nat → (Int32 → Int32 → Option Int32)
  | 0 => fun _ _ => none
  | fl + 1 => fun v3 v4 => (if (x1 + x2) ≤ v4 then (some v3) else (ob (f_X5_cell i0 v4 σ) (fun q2 => (f_X5_number_5 i0 x1 x2 σ fl) ((((10 : Int32) * v3) + q2) - (48 : Int32)) (v4 + (1 : Int32)))))
theorem f_X5_number_5_s {i0 : Nat} {x1 : Int32} {x2 : Int32} {σ : St} (fl : Nat) {v3 : Int32} {v4 : Int32} : f_X5_number_5 i0 x1 x2 σ (fl + 1) v3 v4 = (if (x1 + x2) ≤ v4 then (some v3) else (ob (f_X5_cell i0 v4 σ) (fun q2 => (f_X5_number_5 i0 x1 x2 σ fl) ((((10 : Int32) * v3) + q2) - (48 : Int32)) (v4 + (1 : Int32))))) := rfl
def f_X5_number (i0 : Nat) (x1 : Int32) (x2 : Int32) (σ : St) : Option Int32 := (f_X5_number_5 i0 x1 x2 σ fu (0 : Int32) x1)
set_option maxRecDepth 100000 in
set_option maxHeartbeats 4000000 in
theorem t_X5_number (l : Launch) (G : GT) (hG : Dw G) (i0 : Nat) (x1 : Int32) (x2 : Int32) (hk0 : kd i0 = 2) (σ : St) (o : Int32) (hF : f_X5_number i0 x1 x2 σ = some o) : Ct l G yX5_number wsX5_number 1 21 [.ref (gA G i0), .int x1, .int x2] σ (some (.int o)) σ := by
  refine Met.ofW (cc := cX5_number) (maxL := 5) (ret := (some .int)) (by decide) rfl ?_
  intro p e s m args below meth c s₁ B hml hv
  obtain ⟨rfl, hP, hK⟩ := hv
  have hx := B.exec
  have hb := B.bytes
  have hr := B.returns
  have hts := atoms_spec (ws := wsX5_number) B.pre
  have hown : s.vm.findClass RX5 = some m.cls := findClass_of_methodNamed B.named
  have hlocks := B.notSynchronized
  have Z : CallFix p m c cX5_number 5 s _ wsX5_number RX5 := ⟨hx, hb, hml, hown, hts⟩
  have hS : va_S (AG G) s.heap s.heap [] := va_S.rf
  have hl := lv_entry ([.ref (gA G i0), .int x1, .int x2]) (n := 5) (Nat.le_of_ble_eq_true rfl)
  rw [lg_entry_eq]
  generalize (lg_sl ([.ref (gA G i0), .int x1, .int x2]) ++ List.replicate (5 - (lg_sl ([.ref (gA G i0), .int x1, .int x2])).length) Slot.unset).toArray = ls at hl ⊢
  have hl : lv_has ls 5 [(0, .ref (gA G i0)), (1, .int x1), (2, .int x2)] := hl
  unfold f_X5_number at hF
  refine lv_iconst (v := 0) hx hb dX5_number_0 (by decide) ?_
  refine lv_istore_n (lv' := [(3, .int (0 : Int32)), (0, .ref (gA G i0)), (1, .int x1), (2, .int x2)]) hx hb dX5_number_1 rfl hl (by decide) rfl (fun ls hl => ?_)
  refine lv_iload_n hx hb dX5_number_2 rfl (lv_at hl 2 rfl) ?_
  have J5 : ∀ (fl : Nat) (v3 : Int32) (v4 : Int32) (H : Heap) (locs : List Loc) (hP : Pw G σ H) (hS : va_S (AG G) s.heap H locs) (ls : Array Slot) (hl : lv_has ls 5 [(0, .ref (gA G i0)), (1, .int x1), (2, .int x2), (3, .int v3), (4, .int v4)]) (hF : f_X5_number_5 i0 x1 x2 σ fl v3 v4 = some o), W p l e (headSpec wsX5_number ({ frames := 1, cells := 0, slots := 0, locals := 21 })).room s m ([.ref (gA G i0), .int x1, .int x2] : List Value).toArray below meth c H locs 0 0 (MQ below (qR G (some (.int o)) σ) ([.ref (gA G i0), .int x1, .int x2] : List Value).toArray s 0 0 (AG G)) (F0 m 5 ls []) := by
    intro fl5
    induction fl5 with
    | zero => intro v3 v4 H locs hP hS ls hl hF; cases hF
    | succ fl5 ih5 =>
      intro v3 v4 H locs hP hS ls hl hF
      rw [f_X5_number_5_s] at hF
      refine lv_iload hx hb dX5_number_5 (lv_at hl 4 rfl) ?_
      refine lv_iload_n hx hb dX5_number_7 rfl (lv_at hl 1 rfl) ?_
      refine lv_iload_n hx hb dX5_number_8 rfl (lv_at hl 2 rfl) ?_
      refine lv_iadd hx hb dX5_number_9 ?_
      refine lv_icmp_ge (tgt := 34) hx hb dX5_number_10 (by decide) (fun c1 => ?_) (fun c1 => ?_)
      · have hF := ite_t c1 hF
        refine lv_iload_n hx hb dX5_number_34 rfl (lv_at hl 3 rfl) ?_
        exact e_iP hx hb hr hP hS hlocks dX5_number_35 hF
      · have hF := ite_f c1 hF
        refine lv_bipush (v := 10) hx hb dX5_number_13 (by decide) ?_
        refine lv_iload_n hx hb dX5_number_15 rfl (lv_at hl 3 rfl) ?_
        refine lv_imul hx hb dX5_number_16 ?_
        refine lv_aload_n hx hb dX5_number_17 rfl (lv_at hl 0 rfl) ?_
        refine lv_iload hx hb dX5_number_18 (lv_at hl 4 rfl) ?_
        obtain ⟨q2, h3, hF⟩ := ob_some hF
        refine k_Vv (As := [.int v4]) (rest := [.int ((10 : Int32) * v3)]) Z hK hP hS (t_X5_cell l G hG i0 v4 hk0 σ _ h3) (cwV 1 hts gX5_number_X5_cell rfl rfl rfl (by decide +kernel) ⟨Nat.le_of_ble_eq_true rfl, Nat.le_of_ble_eq_true rfl⟩) (at_2 hk0) rfl rfl hl.1 rfl (Nat.le_of_ble_eq_true rfl) ⟨Nat.zero_le _, Nat.zero_le _⟩ dX5_number_20 (fun H locs hP hS => ?_)
        refine lv_iadd hx hb dX5_number_23 ?_
        refine lv_bipush (v := 48) hx hb dX5_number_24 (by decide) ?_
        refine lv_isub hx hb dX5_number_26 ?_
        refine lv_istore_n (lv' := [(3, .int ((((10 : Int32) * v3) + q2) - (48 : Int32))), (0, .ref (gA G i0)), (1, .int x1), (2, .int x2), (4, .int v4)]) hx hb dX5_number_27 rfl hl (by decide) rfl (fun ls hl => ?_)
        refine lv_iinc (v := (v4 + (1 : Int32))) (lv' := [(4, .int (v4 + (1 : Int32))), (3, .int ((((10 : Int32) * v3) + q2) - (48 : Int32))), (0, .ref (gA G i0)), (1, .int x1), (2, .int x2)]) hx hb dX5_number_28 hl (k := 4) rfl rfl (by decide) rfl (fun ls hl => ?_)
        refine lv_goto (tgt := 5) hx hb dX5_number_31 (by decide) ?_
        exact ih5 ((((10 : Int32) * v3) + q2) - (48 : Int32)) (v4 + (1 : Int32)) _ _ hP hS ls (lv_sub hl [2, 3, 4, 1, 0] rfl) hF
  refine lv_istore (lv' := [(4, .int x1), (3, .int (0 : Int32)), (0, .ref (gA G i0)), (1, .int x1), (2, .int x2)]) hx hb dX5_number_3 hl (by decide) rfl (fun ls hl => ?_)
  exact J5 fu (0 : Int32) x1 _ _ hP hS ls (lv_sub hl [2, 3, 4, 1, 0] rfl) hF
def f_X7_deedAt (i0 : Nat) (x1 : Int32) (σ : St) : Option (Option Nat) := (if x1 < 0 then (some none) else (if (σ i0 2) ≤ x1 then (some none) else (if (10 : Int32) ≤ x1 then (some none) else (if inb x1 10 then some (some ((i0 + 1) + 2 + x1.toNatClampNeg)) else none))))
set_option maxRecDepth 100000 in
set_option maxHeartbeats 4000000 in
theorem t_X7_deedAt (l : Launch) (G : GT) (hG : Dw G) (i0 : Nat) (x1 : Int32) (hk0 : kd i0 = 3) (σ : St) (o : Option Nat) (hF : f_X7_deedAt i0 x1 σ = some o) : Ct l G yX7_deedAt wsX7_deedAt 0 0 [.ref (gA G i0), .int x1] σ (some (oref G o)) σ := by
  refine Met.ofW (cc := cX7_deedAt) (maxL := 2) (ret := (some (.object "AlmanacOfTheYearGone$Deed"))) (by decide) rfl ?_
  intro p e s m args below meth c s₁ B hml hv
  obtain ⟨rfl, hP, hK⟩ := hv
  have hx := B.exec
  have hb := B.bytes
  have hr := B.returns
  have hts := atoms_spec (ws := wsX7_deedAt) B.pre
  have hown : s.vm.findClass RX7 = some m.cls := findClass_of_methodNamed B.named
  have hlocks := B.notSynchronized
  have Z : CallFix p m c cX7_deedAt 2 s _ wsX7_deedAt RX7 := ⟨hx, hb, hml, hown, hts⟩
  have hS : va_S (AG G) s.heap s.heap [] := va_S.rf
  have inX7 : ∀ w ∈ u_ws RX7 TX7 4, w ∈ wsX7_deedAt := by decide +kernel
  have w1 := hts (.fieldLink RX7 22 "AlmanacOfTheYearGone$Year" "deedCount" "I") (by decide +kernel)
  have w2 := hts (.fieldLink RX7 11 "AlmanacOfTheYearGone$Year" "deeds" "[LAlmanacOfTheYearGone$Deed;") (by decide +kernel)
  have hl := lv_entry ([.ref (gA G i0), .int x1]) (n := 2) (Nat.le_of_ble_eq_true rfl)
  rw [lg_entry_eq]
  generalize (lg_sl ([.ref (gA G i0), .int x1]) ++ List.replicate (2 - (lg_sl ([.ref (gA G i0), .int x1])).length) Slot.unset).toArray = ls at hl ⊢
  have hl : lv_has ls 2 [(0, .ref (gA G i0)), (1, .int x1)] := hl
  unfold f_X7_deedAt at hF
  refine lv_iload_n hx hb dX7_deedAt_0 rfl (lv_at hl 1 rfl) ?_
  refine lv_if_lt (tgt := 30) hx hb dX7_deedAt_1 (by decide) (fun c1 => ?_) (fun c1 => ?_)
  · have hF := ite_t c1 hF
    refine lv_null hx hb dX7_deedAt_30 ?_
    exact e_aP (q := none) hx hb hr hP hS hlocks dX7_deedAt_31 rfl hF
  · have hF := ite_f c1 hF
    refine lv_iload_n hx hb dX7_deedAt_4 rfl (lv_at hl 1 rfl) ?_
    refine lv_aload_n hx hb dX7_deedAt_5 rfl (lv_at hl 0 rfl) ?_
    refine va_get (ci := 3) (C := RX7) (T := TX7) (N := 4) (v := .int (σ i0 2)) hx hb hts inX7 hown hK.1 hP i0 (at_3 hk0) rfl 2 (by decide) w1 (fun _ h9 => h9) rfl dX7_deedAt_6 ?_
    refine lv_icmp_ge (tgt := 30) hx hb dX7_deedAt_9 (by decide) (fun c2 => ?_) (fun c2 => ?_)
    · have hF := ite_t c2 hF
      refine lv_null hx hb dX7_deedAt_30 ?_
      exact e_aP (q := none) hx hb hr hP hS hlocks dX7_deedAt_31 rfl hF
    · have hF := ite_f c2 hF
      refine lv_iload_n hx hb dX7_deedAt_12 rfl (lv_at hl 1 rfl) ?_
      refine lv_aload_n hx hb dX7_deedAt_13 rfl (lv_at hl 0 rfl) ?_
      refine va_get (ci := 3) (C := RX7) (T := TX7) (N := 4) (v := .ref (gA G (i0 + 1))) hx hb hts inX7 hown hK.1 hP i0 (at_3 hk0) rfl 0 (by decide) w2 (fun _ h9 => h9) rfl dX7_deedAt_14 ?_
      refine va_alen (v := 10) hx hb hK.1 hP (i0 + 1) 1 (at_7 (kd_y0 hk0)) rfl rfl dX7_deedAt_17 ?_
      refine lv_icmp_ge (tgt := 30) hx hb dX7_deedAt_18 (by decide) (fun c3 => ?_) (fun c3 => ?_)
      · have hF := ite_t c3 hF
        refine lv_null hx hb dX7_deedAt_30 ?_
        exact e_aP (q := none) hx hb hr hP hS hlocks dX7_deedAt_31 rfl hF
      · have hF := ite_f c3 hF
        refine lv_aload_n hx hb dX7_deedAt_21 rfl (lv_at hl 0 rfl) ?_
        refine va_get (ci := 3) (C := RX7) (T := TX7) (N := 4) (v := .ref (gA G (i0 + 1))) hx hb hts inX7 hown hK.1 hP i0 (at_3 hk0) rfl 0 (by decide) w2 (fun _ h9 => h9) rfl dX7_deedAt_22 ?_
        refine lv_iload_n hx hb dX7_deedAt_25 rfl (lv_at hl 1 rfl) ?_
        obtain ⟨b4, hF⟩ := ite_some hF
        refine va_aldq hx hb hK.1 hP (i0 + 1) 1 (at_7 (kd_y0 hk0)) rfl (inb_in b4) dX7_deedAt_26 ?_
        refine W.eq (g2 := F0 m 27 ls ([.ref (gA G ((i0 + 1) + 2 + x1.toNatClampNeg))])) rfl ?_
        refine lv_goto (tgt := 31) hx hb dX7_deedAt_27 (by decide) ?_
        exact e_aP (q := some ((i0 + 1) + 2 + x1.toNatClampNeg)) hx hb hr hP hS hlocks dX7_deedAt_31 rfl hF
theorem q_X7_deedAt {i0 : Nat} {x1 : Int32} {σ : St} {i : Nat} (hk0 : kd i0 = 3) (h : f_X7_deedAt i0 x1 σ = some (some i)) : kd i = 1 := by
  unfold f_X7_deedAt at h
  by_cases c1 : x1 < 0
  · rw [if_pos c1] at h; cases h
  · rw [if_neg c1] at h
    by_cases c2 : σ i0 2 ≤ x1
    · rw [if_pos c2] at h; cases h
    · rw [if_neg c2] at h
      by_cases c3 : (10 : Int32) ≤ x1
      · rw [if_pos c3] at h; cases h
      · rw [if_neg c3] at h
        obtain ⟨b, h⟩ := ite_some h
        cases h
        exact kd_7 (kd_y0 hk0) b.2
def f_X7_add (i0 : Nat) (x1 : Int32) (x2 : Int32) (x3 : Int32) (x4 : Int32) (x5 : Int32) (σ : St) : Option (Bool × St) := (if (σ i0 2) < (10 : Int32) then (if inb (σ i0 2) 10 then ob (f_X1_become ((i0 + 1) + 2 + (σ i0 2).toNatClampNeg) x1 x2 x3 x4 x5 σ) (fun q3 => some (true, up q3 i0 2 ((q3 i0 2) + (1 : Int32)))) else none) else (some (false, σ)))
set_option maxRecDepth 100000 in
set_option maxHeartbeats 4000000 in
theorem t_X7_add (l : Launch) (G : GT) (hG : Dw G) (i0 : Nat) (x1 : Int32) (x2 : Int32) (x3 : Int32) (x4 : Int32) (x5 : Int32) (hk0 : kd i0 = 3) (σ : St) (o : Bool × St) (hF : f_X7_add i0 x1 x2 x3 x4 x5 σ = some o) : Ct l G yX7_add wsX7_add 2 49 [.ref (gA G i0), .int x1, .int x2, .int x3, .int x4, .int x5] σ (some (.int (b2i o.1))) o.2 := by
  refine Met.ofW (cc := cX7_add) (maxL := 6) (ret := (some .boolean)) (by decide) rfl ?_
  intro p e s m args below meth c s₁ B hml hv
  obtain ⟨rfl, hP, hK⟩ := hv
  have hx := B.exec
  have hb := B.bytes
  have hr := B.returns
  have hts := atoms_spec (ws := wsX7_add) B.pre
  have hown : s.vm.findClass RX7 = some m.cls := findClass_of_methodNamed B.named
  have hlocks := B.notSynchronized
  have Z : CallFix p m c cX7_add 6 s _ wsX7_add RX7 := ⟨hx, hb, hml, hown, hts⟩
  have hS : va_S (AG G) s.heap s.heap [] := va_S.rf
  have inX7 : ∀ w ∈ u_ws RX7 TX7 4, w ∈ wsX7_add := by decide +kernel
  have w1 := hts (.fieldLink RX7 22 "AlmanacOfTheYearGone$Year" "deedCount" "I") (by decide +kernel)
  have w2 := hts (.fieldLink RX7 11 "AlmanacOfTheYearGone$Year" "deeds" "[LAlmanacOfTheYearGone$Deed;") (by decide +kernel)
  have w3 := hts (.initialized RX1) (by decide +kernel)
  have w4n : va_Nw (.methodLinkNest "AlmanacOfTheYearGone$Year" 50 ⟨"AlmanacOfTheYearGone$Deed", "become", "(IIIII)V"⟩ "AlmanacOfTheYearGone") s := hK.2 _ (List.mem_of_getElem? (i := 43) rfl)
  have w4 := va_Nw.use (A := [.ref (gA G i0), .int x1, .int x2, .int x3, .int x4, .int x5].toArray) rfl w4n
  have w5 := hts (.instanceMethod yX1_become) (by decide +kernel)
  have w6 := hts (.selects RX1 yX1_become yX1_become) (by decide +kernel)
  have hl := lv_entry ([.ref (gA G i0), .int x1, .int x2, .int x3, .int x4, .int x5]) (n := 6) (Nat.le_of_ble_eq_true rfl)
  rw [lg_entry_eq]
  generalize (lg_sl ([.ref (gA G i0), .int x1, .int x2, .int x3, .int x4, .int x5]) ++ List.replicate (6 - (lg_sl ([.ref (gA G i0), .int x1, .int x2, .int x3, .int x4, .int x5])).length) Slot.unset).toArray = ls at hl ⊢
  have hl : lv_has ls 6 [(0, .ref (gA G i0)), (1, .int x1), (2, .int x2), (3, .int x3), (4, .int x4), (5, .int x5)] := hl
  unfold f_X7_add at hF
  refine lv_aload_n hx hb dX7_add_0 rfl (lv_at hl 0 rfl) ?_
  refine va_get (ci := 3) (C := RX7) (T := TX7) (N := 4) (v := .int (σ i0 2)) hx hb hts inX7 hown hK.1 hP i0 (at_3 hk0) rfl 2 (by decide) w1 (fun _ h9 => h9) rfl dX7_add_1 ?_
  refine lv_aload_n hx hb dX7_add_4 rfl (lv_at hl 0 rfl) ?_
  refine va_get (ci := 3) (C := RX7) (T := TX7) (N := 4) (v := .ref (gA G (i0 + 1))) hx hb hts inX7 hown hK.1 hP i0 (at_3 hk0) rfl 0 (by decide) w2 (fun _ h9 => h9) rfl dX7_add_5 ?_
  refine va_alen (v := 10) hx hb hK.1 hP (i0 + 1) 1 (at_7 (kd_y0 hk0)) rfl rfl dX7_add_8 ?_
  refine lv_icmp_lt (tgt := 14) hx hb dX7_add_9 (by decide) (fun c1 => ?_) (fun c1 => ?_)
  · have hF := ite_t c1 hF
    refine lv_aload_n hx hb dX7_add_14 rfl (lv_at hl 0 rfl) ?_
    refine va_get (ci := 3) (C := RX7) (T := TX7) (N := 4) (v := .ref (gA G (i0 + 1))) hx hb hts inX7 hown hK.1 hP i0 (at_3 hk0) rfl 0 (by decide) w2 (fun _ h9 => h9) rfl dX7_add_15 ?_
    refine lv_aload_n hx hb dX7_add_18 rfl (lv_at hl 0 rfl) ?_
    refine va_get (ci := 3) (C := RX7) (T := TX7) (N := 4) (v := .int (σ i0 2)) hx hb hts inX7 hown hK.1 hP i0 (at_3 hk0) rfl 2 (by decide) w1 (fun _ h9 => h9) rfl dX7_add_19 ?_
    obtain ⟨b2, hF⟩ := ite_some hF
    refine va_aldq hx hb hK.1 hP (i0 + 1) 1 (at_7 (kd_y0 hk0)) rfl (inb_in b2) dX7_add_22 ?_
    refine W.eq (g2 := F0 m 23 ls ([.ref (gA G ((i0 + 1) + 2 + (σ i0 2).toNatClampNeg))])) rfl ?_
    refine lv_iload_n hx hb dX7_add_23 rfl (lv_at hl 1 rfl) ?_
    refine lv_iload_n hx hb dX7_add_24 rfl (lv_at hl 2 rfl) ?_
    refine lv_iload_n hx hb dX7_add_25 rfl (lv_at hl 3 rfl) ?_
    refine lv_iload hx hb dX7_add_26 (lv_at hl 4 rfl) ?_
    refine lv_iload hx hb dX7_add_28 (lv_at hl 5 rfl) ?_
    obtain ⟨q3, h4, hF⟩ := ob_some hF
    refine k_VN0 (As := [.int x1, .int x2, .int x3, .int x4, .int x5]) (rest := []) Z hK hP hS (t_X1_become l G hG ((i0 + 1) + 2 + (σ i0 2).toNatClampNeg) x1 x2 x3 x4 x5 (kd_7 (kd_y0 hk0) b2.2) σ _ h4) ⟨va_cnB 5 hts gX7_add_X1_become_n50 rfl rfl rfl w4n w3 (by decide +kernel) ⟨Nat.le_of_ble_eq_true rfl, Nat.le_of_ble_eq_true rfl⟩, w5, w6⟩ (at_1 (kd_7 (kd_y0 hk0) b2.2)) rfl rfl hl.1 rfl (Nat.le_of_ble_eq_true rfl) ⟨Nat.zero_le _, Nat.zero_le _⟩ dX7_add_30 (fun H locs hP hS => ?_)
    refine lv_aload_n hx hb dX7_add_33 rfl (lv_at hl 0 rfl) ?_
    refine lv_dup hx hb dX7_add_34 rfl ?_
    refine va_get (ci := 3) (C := RX7) (T := TX7) (N := 4) (v := .int (q3 i0 2)) hx hb hts inX7 hown hK.1 hP i0 (at_3 hk0) rfl 2 (by decide) w1 (fun _ h9 => h9) rfl dX7_add_35 ?_
    refine lv_iconst (v := 1) hx hb dX7_add_38 (by decide) ?_
    refine lv_iadd hx hb dX7_add_39 ?_
    refine va_put (ci := 3) (C := RX7) (T := TX7) (N := 4) (v := .int ((q3 i0 2) + (1 : Int32))) (ty := .int) hx hb hts inX7 tyX7 tyX7_ok nmX7 hown hK.1 hP (Dw.D hG) hS i0 (at_3 hk0) rfl 2 (by decide) w1 (fun _ h9 => h9) rfl (by decide +kernel) rfl rfl (Nat.le_of_ble_eq_true rfl) dX7_add_40 (fun H locs hP _ hS => ?_)
    have hP := Pw.of hP (set_3_2 hk0)
    refine lv_iconst (v := 1) hx hb dX7_add_43 (by decide) ?_
    exact e_zS (b := true) hx hb hr hP hS hlocks dX7_add_44 rfl hF
  · have hF := ite_f c1 hF
    refine lv_iconst (v := 0) hx hb dX7_add_12 (by decide) ?_
    exact e_zS (b := false) hx hb hr hP hS hlocks dX7_add_13 rfl hF
def f_X7_become_50 (i0 : Nat) (i1 : Nat) (rec7 : Int32 → St → Option St) (v2 : Int32) (τ : St) : Option St := (rec7 (v2 + (1 : Int32)) τ)
theorem f_X7_become_50_e {i0 : Nat} {i1 : Nat} {rec7 : Int32 → St → Option St} {v2 : Int32} {τ : St} : f_X7_become_50 i0 i1 rec7 v2 τ = (rec7 (v2 + (1 : Int32)) τ) := rfl
def f_X7_become_7 (i0 : Nat) (i1 : Nat) : Nat → (Int32 → St → Option St)
  | 0 => fun _ _ => none
  | fl + 1 => fun v2 τ => (if (τ i1 2) ≤ v2 then (some (up τ i0 3 (τ i1 3))) else (ob (f_X7_deedAt i1 v2 τ) (fun q2 => oc q2 ((f_X7_become_50 i0 i1 (f_X7_become_7 i0 i1 fl) v2 τ)) (fun i4 => (ob (f_X7_add i0 (τ i4 0) (τ i4 1) (τ i4 2) (τ i4 3) (τ i4 4) τ) (fun q5 => f_X7_become_50 i0 i1 (f_X7_become_7 i0 i1 fl) v2 q5.2))))))
theorem f_X7_become_7_s {i0 : Nat} {i1 : Nat} (fl : Nat) {v2 : Int32} {τ : St} : f_X7_become_7 i0 i1 (fl + 1) v2 τ = (if (τ i1 2) ≤ v2 then (some (up τ i0 3 (τ i1 3))) else (ob (f_X7_deedAt i1 v2 τ) (fun q2 => oc q2 ((f_X7_become_50 i0 i1 (f_X7_become_7 i0 i1 fl) v2 τ)) (fun i4 => (ob (f_X7_add i0 (τ i4 0) (τ i4 1) (τ i4 2) (τ i4 3) (τ i4 4) τ) (fun q5 => f_X7_become_50 i0 i1 (f_X7_become_7 i0 i1 fl) v2 q5.2)))))) := rfl
def f_X7_become (i0 : Nat) (i1 : Nat) (σ : St) : Option St := (f_X7_become_7 i0 i1 fu (0 : Int32) (up σ i0 2 (0 : Int32)))
set_option maxRecDepth 100000 in
set_option maxHeartbeats 4000000 in
theorem t_X7_become (l : Launch) (G : GT) (hG : Dw G) (i0 : Nat) (i1 : Nat) (hk0 : kd i0 = 3) (hk1 : kd i1 = 3) (σ : St) (o : St) (hF : f_X7_become i0 i1 σ = some o) : Ct l G yX7_become wsX7_become 3 74 [.ref (gA G i0), .ref (gA G i1)] σ none o := by
  refine Met.ofW (cc := cX7_become) (maxL := 4) (ret := none) (by decide) rfl ?_
  intro p e s m args below meth c s₁ B hml hv
  obtain ⟨rfl, hP, hK⟩ := hv
  have hx := B.exec
  have hb := B.bytes
  have hr := B.returns
  have hts := atoms_spec (ws := wsX7_become) B.pre
  have hown : s.vm.findClass RX7 = some m.cls := findClass_of_methodNamed B.named
  have hlocks := B.notSynchronized
  have Z : CallFix p m c cX7_become 4 s _ wsX7_become RX7 := ⟨hx, hb, hml, hown, hts⟩
  have hS : va_S (AG G) s.heap s.heap [] := va_S.rf
  have inX7 : ∀ w ∈ u_ws RX7 TX7 4, w ∈ wsX7_become := by decide +kernel
  have inX1 : ∀ w ∈ u_ws RX1 TX1 7, w ∈ wsX7_become := by decide +kernel
  have w1 := hts (.fieldLink RX7 22 "AlmanacOfTheYearGone$Year" "deedCount" "I") (by decide +kernel)
  have w2 := hts (.fieldLink RX7 26 "AlmanacOfTheYearGone$Year" "day" "I") (by decide +kernel)
  have w3n : va_Nw (.fieldLinkNest "AlmanacOfTheYearGone$Year" 33 "AlmanacOfTheYearGone$Deed" "kind" "I" "AlmanacOfTheYearGone") s := hK.2 _ (List.mem_of_getElem? (i := 8) rfl)
  have w3 := va_Nw.use (A := [.ref (gA G i0), .ref (gA G i1)].toArray) rfl w3n
  have w4n : va_Nw (.fieldLinkNest "AlmanacOfTheYearGone$Year" 36 "AlmanacOfTheYearGone$Deed" "figure" "I" "AlmanacOfTheYearGone") s := hK.2 _ (List.mem_of_getElem? (i := 10) rfl)
  have w4 := va_Nw.use (A := [.ref (gA G i0), .ref (gA G i1)].toArray) rfl w4n
  have w5n : va_Nw (.fieldLinkNest "AlmanacOfTheYearGone$Year" 39 "AlmanacOfTheYearGone$Deed" "day" "I" "AlmanacOfTheYearGone") s := hK.2 _ (List.mem_of_getElem? (i := 12) rfl)
  have w5 := va_Nw.use (A := [.ref (gA G i0), .ref (gA G i1)].toArray) rfl w5n
  have w6n : va_Nw (.fieldLinkNest "AlmanacOfTheYearGone$Year" 40 "AlmanacOfTheYearGone$Deed" "who" "I" "AlmanacOfTheYearGone") s := hK.2 _ (List.mem_of_getElem? (i := 16) rfl)
  have w6 := va_Nw.use (A := [.ref (gA G i0), .ref (gA G i1)].toArray) rfl w6n
  have w7n : va_Nw (.fieldLinkNest "AlmanacOfTheYearGone$Year" 43 "AlmanacOfTheYearGone$Deed" "seen" "I" "AlmanacOfTheYearGone") s := hK.2 _ (List.mem_of_getElem? (i := 20) rfl)
  have w7 := va_Nw.use (A := [.ref (gA G i0), .ref (gA G i1)].toArray) rfl w7n
  have hl := lv_entry ([.ref (gA G i0), .ref (gA G i1)]) (n := 4) (Nat.le_of_ble_eq_true rfl)
  rw [lg_entry_eq]
  generalize (lg_sl ([.ref (gA G i0), .ref (gA G i1)]) ++ List.replicate (4 - (lg_sl ([.ref (gA G i0), .ref (gA G i1)])).length) Slot.unset).toArray = ls at hl ⊢
  have hl : lv_has ls 4 [(0, .ref (gA G i0)), (1, .ref (gA G i1))] := hl
  unfold f_X7_become at hF
  refine lv_aload_n hx hb dX7_become_0 rfl (lv_at hl 0 rfl) ?_
  refine lv_iconst (v := 0) hx hb dX7_become_1 (by decide) ?_
  refine va_put (ci := 3) (C := RX7) (T := TX7) (N := 4) (v := .int (0 : Int32)) (ty := .int) hx hb hts inX7 tyX7 tyX7_ok nmX7 hown hK.1 hP (Dw.D hG) hS i0 (at_3 hk0) rfl 2 (by decide) w1 (fun _ h9 => h9) rfl (by decide +kernel) rfl rfl (Nat.le_of_ble_eq_true rfl) dX7_become_2 (fun H locs hP _ hS => ?_)
  have hP := Pw.of hP (set_3_2 hk0)
  refine lv_iconst (v := 0) hx hb dX7_become_5 (by decide) ?_
  have J7 : ∀ (fl : Nat) (v2 : Int32) (τ : St) (H : Heap) (locs : List Loc) (hP : Pw G τ H) (hS : va_S (AG G) s.heap H locs) (ls : Array Slot) (hl : lv_has ls 4 [(0, .ref (gA G i0)), (1, .ref (gA G i1)), (2, .int v2)]) (hF : f_X7_become_7 i0 i1 fl v2 τ = some o), W p l e (headSpec wsX7_become ({ frames := 3, cells := 0, slots := 0, locals := 74 })).room s m ([.ref (gA G i0), .ref (gA G i1)] : List Value).toArray below meth c H locs 0 0 (MQ below (qR G none o) ([.ref (gA G i0), .ref (gA G i1)] : List Value).toArray s 0 0 (AG G)) (F0 m 7 ls []) := by
    intro fl7
    induction fl7 with
    | zero => intro v2 τ H locs hP hS ls hl hF; cases hF
    | succ fl7 ih7 =>
      intro v2 τ H locs hP hS ls hl hF
      rw [f_X7_become_7_s] at hF
      refine lv_iload_n hx hb dX7_become_7 rfl (lv_at hl 2 rfl) ?_
      refine lv_aload_n hx hb dX7_become_8 rfl (lv_at hl 1 rfl) ?_
      refine va_get (ci := 3) (C := RX7) (T := TX7) (N := 4) (v := .int (τ i1 2)) hx hb hts inX7 hown hK.1 hP i1 (at_3 hk1) rfl 2 (by decide) w1 (fun _ h9 => h9) rfl dX7_become_9 ?_
      refine lv_icmp_ge (tgt := 56) hx hb dX7_become_12 (by decide) (fun c1 => ?_) (fun c1 => ?_)
      · have hF := ite_t c1 hF
        refine lv_aload_n hx hb dX7_become_56 rfl (lv_at hl 0 rfl) ?_
        refine lv_aload_n hx hb dX7_become_57 rfl (lv_at hl 1 rfl) ?_
        refine va_get (ci := 3) (C := RX7) (T := TX7) (N := 4) (v := .int (τ i1 3)) hx hb hts inX7 hown hK.1 hP i1 (at_3 hk1) rfl 3 (by decide) w2 (fun _ h9 => h9) rfl dX7_become_58 ?_
        refine va_put (ci := 3) (C := RX7) (T := TX7) (N := 4) (v := .int (τ i1 3)) (ty := .int) hx hb hts inX7 tyX7 tyX7_ok nmX7 hown hK.1 hP (Dw.D hG) hS i0 (at_3 hk0) rfl 3 (by decide) w2 (fun _ h9 => h9) rfl (by decide +kernel) rfl rfl (Nat.le_of_ble_eq_true rfl) dX7_become_61 (fun H locs hP _ hS => ?_)
        have hP := Pw.of hP (set_3_3 hk0)
        exact e_vS hx hb hr hP hS hlocks dX7_become_64 hF
      · have hF := ite_f c1 hF
        refine lv_aload_n hx hb dX7_become_15 rfl (lv_at hl 1 rfl) ?_
        refine lv_iload_n hx hb dX7_become_16 rfl (lv_at hl 2 rfl) ?_
        obtain ⟨q2, h3, hF⟩ := ob_some hF
        refine k_Vv (As := [.int v2]) (rest := []) Z hK hP hS (t_X7_deedAt l G hG i1 v2 hk1 τ _ h3) (cwV 1 hts gX7_become_X7_deedAt rfl rfl rfl (by decide +kernel) ⟨Nat.le_of_ble_eq_true rfl, Nat.le_of_ble_eq_true rfl⟩) (at_3 hk1) rfl rfl hl.1 rfl (Nat.le_of_ble_eq_true rfl) ⟨Nat.zero_le _, Nat.zero_le _⟩ dX7_become_17 (fun H locs hP hS => ?_)
        rcases q2 with _ | i4
        · have hF := oc_n hF
          refine W.eq (g2 := F0 m 20 ls [.null]) rfl ?_
          refine lv_astore_nN (lv' := [(3, .null), (0, .ref (gA G i0)), (1, .ref (gA G i1)), (2, .int v2)]) hx hb dX7_become_20 rfl hl (by decide) rfl (fun ls hl => ?_)
          refine lv_aload_nN hx hb dX7_become_21 rfl (lv_at hl 0 rfl) ?_
          have J50 : ∀ (v2 : Int32) (τ : St) (H : Heap) (locs : List Loc) (hP : Pw G τ H) (hS : va_S (AG G) s.heap H locs) (ls : Array Slot) (hl : lv_has ls 4 [(0, .ref (gA G i0)), (1, .ref (gA G i1)), (2, .int v2)]) (hF : f_X7_become_50 i0 i1 (f_X7_become_7 i0 i1 fl7) v2 τ = some o), W p l e (headSpec wsX7_become ({ frames := 3, cells := 0, slots := 0, locals := 74 })).room s m ([.ref (gA G i0), .ref (gA G i1)] : List Value).toArray below meth c H locs 0 0 (MQ below (qR G none o) ([.ref (gA G i0), .ref (gA G i1)] : List Value).toArray s 0 0 (AG G)) (F0 m 50 ls []) := by
            intro v2 τ H locs hP hS ls hl hF
            rw [f_X7_become_50_e] at hF
            refine lv_iinc (v := (v2 + (1 : Int32))) (lv' := [(2, .int (v2 + (1 : Int32))), (0, .ref (gA G i0)), (1, .ref (gA G i1))]) hx hb dX7_become_50 hl (k := 2) rfl rfl (by decide) rfl (fun ls hl => ?_)
            refine lv_goto (tgt := 7) hx hb dX7_become_53 (by decide) ?_
            exact ih7 (v2 + (1 : Int32)) τ _ _ hP hS ls (lv_sub hl [1, 2, 0] rfl) hF
          refine lv_ifnullN (tgt := 50) hx hb dX7_become_22 (by decide) ?_
          exact J50 v2 τ _ _ hP hS ls (lv_sub hl [1, 2, 3] rfl) hF
        · have hF := oc_s hF
          have ki4 : kd i4 = 1 := q_X7_deedAt hk1 h3
          refine W.eq (g2 := F0 m 20 ls [.ref (gA G i4)]) rfl ?_
          refine lv_astore_n (lv' := [(3, .ref (gA G i4)), (0, .ref (gA G i0)), (1, .ref (gA G i1)), (2, .int v2)]) hx hb dX7_become_20 rfl hl (by decide) rfl (fun ls hl => ?_)
          refine lv_aload_n hx hb dX7_become_21 rfl (lv_at hl 0 rfl) ?_
          have J50 : ∀ (v2 : Int32) (τ : St) (H : Heap) (locs : List Loc) (hP : Pw G τ H) (hS : va_S (AG G) s.heap H locs) (ls : Array Slot) (hl : lv_has ls 4 [(0, .ref (gA G i0)), (1, .ref (gA G i1)), (2, .int v2)]) (hF : f_X7_become_50 i0 i1 (f_X7_become_7 i0 i1 fl7) v2 τ = some o), W p l e (headSpec wsX7_become ({ frames := 3, cells := 0, slots := 0, locals := 74 })).room s m ([.ref (gA G i0), .ref (gA G i1)] : List Value).toArray below meth c H locs 0 0 (MQ below (qR G none o) ([.ref (gA G i0), .ref (gA G i1)] : List Value).toArray s 0 0 (AG G)) (F0 m 50 ls []) := by
            intro v2 τ H locs hP hS ls hl hF
            rw [f_X7_become_50_e] at hF
            refine lv_iinc (v := (v2 + (1 : Int32))) (lv' := [(2, .int (v2 + (1 : Int32))), (0, .ref (gA G i0)), (1, .ref (gA G i1))]) hx hb dX7_become_50 hl (k := 2) rfl rfl (by decide) rfl (fun ls hl => ?_)
            refine lv_goto (tgt := 7) hx hb dX7_become_53 (by decide) ?_
            exact ih7 (v2 + (1 : Int32)) τ _ _ hP hS ls (lv_sub hl [1, 2, 0] rfl) hF
          refine lv_ifnull hx hb dX7_become_22 ?_
          refine lv_aload_n hx hb dX7_become_25 rfl (lv_at hl 1 rfl) ?_
          refine lv_aload_n hx hb dX7_become_26 rfl (lv_at hl 0 rfl) ?_
          refine va_getN (ci := 1) (C := RX1) (T := TX1) (N := 7) (v := .int (τ i4 0)) hx hb hts inX1 hown hK.1 hP i4 (at_1 ki4) rfl 0 (by decide) w3 (fun _ h9 => h9) rfl dX7_become_27 ?_
          refine lv_aload_n hx hb dX7_become_30 rfl (lv_at hl 0 rfl) ?_
          refine va_getN (ci := 1) (C := RX1) (T := TX1) (N := 7) (v := .int (τ i4 1)) hx hb hts inX1 hown hK.1 hP i4 (at_1 ki4) rfl 1 (by decide) w4 (fun _ h9 => h9) rfl dX7_become_31 ?_
          refine lv_aload_n hx hb dX7_become_34 rfl (lv_at hl 0 rfl) ?_
          refine va_getN (ci := 1) (C := RX1) (T := TX1) (N := 7) (v := .int (τ i4 2)) hx hb hts inX1 hown hK.1 hP i4 (at_1 ki4) rfl 2 (by decide) w5 (fun _ h9 => h9) rfl dX7_become_35 ?_
          refine lv_aload_n hx hb dX7_become_38 rfl (lv_at hl 0 rfl) ?_
          refine va_getN (ci := 1) (C := RX1) (T := TX1) (N := 7) (v := .int (τ i4 3)) hx hb hts inX1 hown hK.1 hP i4 (at_1 ki4) rfl 3 (by decide) w6 (fun _ h9 => h9) rfl dX7_become_39 ?_
          refine lv_aload_n hx hb dX7_become_42 rfl (lv_at hl 0 rfl) ?_
          refine va_getN (ci := 1) (C := RX1) (T := TX1) (N := 7) (v := .int (τ i4 4)) hx hb hts inX1 hown hK.1 hP i4 (at_1 ki4) rfl 4 (by decide) w7 (fun _ h9 => h9) rfl dX7_become_43 ?_
          obtain ⟨q5, h6, hF⟩ := ob_some hF
          refine k_Vv (As := [.int (τ i4 0), .int (τ i4 1), .int (τ i4 2), .int (τ i4 3), .int (τ i4 4)]) (rest := []) Z hK hP hS (t_X7_add l G hG i0 (τ i4 0) (τ i4 1) (τ i4 2) (τ i4 3) (τ i4 4) hk0 τ _ h6) (cwV 5 hts gX7_become_X7_add rfl rfl rfl (by decide +kernel) ⟨Nat.le_of_ble_eq_true rfl, Nat.le_of_ble_eq_true rfl⟩) (at_3 hk0) rfl rfl hl.1 rfl (Nat.le_of_ble_eq_true rfl) ⟨Nat.zero_le _, Nat.zero_le _⟩ dX7_become_46 (fun H locs hP hS => ?_)
          refine lv_pop hx hb dX7_become_49 rfl ?_
          exact J50 v2 q5.2 _ _ hP hS ls (lv_sub hl [1, 2, 3] rfl) hF
  refine lv_istore_n (lv' := [(2, .int (0 : Int32)), (0, .ref (gA G i0)), (1, .ref (gA G i1))]) hx hb dX7_become_6 rfl hl (by decide) rfl (fun ls hl => ?_)
  exact J7 fu (0 : Int32) (up σ i0 2 (0 : Int32)) _ _ hP hS ls (lv_sub hl [1, 2, 0] rfl) hF
def f_X7_toldAt (i0 : Nat) (x1 : Int32) (σ : St) : Option (Option Nat) := (ob (f_X7_deedAt i0 x1 σ) (fun q1 => oc q1 ((some none)) (fun i3 => (if (σ i0 3) < (σ i3 2) then (some none) else (some (some i3))))))
set_option maxRecDepth 100000 in
set_option maxHeartbeats 4000000 in
theorem t_X7_toldAt (l : Launch) (G : GT) (hG : Dw G) (i0 : Nat) (x1 : Int32) (hk0 : kd i0 = 3) (σ : St) (o : Option Nat) (hF : f_X7_toldAt i0 x1 σ = some o) : Ct l G yX7_toldAt wsX7_toldAt 1 21 [.ref (gA G i0), .int x1] σ (some (oref G o)) σ := by
  refine Met.ofW (cc := cX7_toldAt) (maxL := 3) (ret := (some (.object "AlmanacOfTheYearGone$Deed"))) (by decide) rfl ?_
  intro p e s m args below meth c s₁ B hml hv
  obtain ⟨rfl, hP, hK⟩ := hv
  have hx := B.exec
  have hb := B.bytes
  have hr := B.returns
  have hts := atoms_spec (ws := wsX7_toldAt) B.pre
  have hown : s.vm.findClass RX7 = some m.cls := findClass_of_methodNamed B.named
  have hlocks := B.notSynchronized
  have Z : CallFix p m c cX7_toldAt 3 s _ wsX7_toldAt RX7 := ⟨hx, hb, hml, hown, hts⟩
  have hS : va_S (AG G) s.heap s.heap [] := va_S.rf
  have inX1 : ∀ w ∈ u_ws RX1 TX1 7, w ∈ wsX7_toldAt := by decide +kernel
  have inX7 : ∀ w ∈ u_ws RX7 TX7 4, w ∈ wsX7_toldAt := by decide +kernel
  have w1n : va_Nw (.fieldLinkNest "AlmanacOfTheYearGone$Year" 39 "AlmanacOfTheYearGone$Deed" "day" "I" "AlmanacOfTheYearGone") s := hK.2 _ (List.mem_of_getElem? (i := 12) rfl)
  have w1 := va_Nw.use (A := [.ref (gA G i0), .int x1].toArray) rfl w1n
  have w2 := hts (.fieldLink RX7 26 "AlmanacOfTheYearGone$Year" "day" "I") (by decide +kernel)
  have hl := lv_entry ([.ref (gA G i0), .int x1]) (n := 3) (Nat.le_of_ble_eq_true rfl)
  rw [lg_entry_eq]
  generalize (lg_sl ([.ref (gA G i0), .int x1]) ++ List.replicate (3 - (lg_sl ([.ref (gA G i0), .int x1])).length) Slot.unset).toArray = ls at hl ⊢
  have hl : lv_has ls 3 [(0, .ref (gA G i0)), (1, .int x1)] := hl
  unfold f_X7_toldAt at hF
  refine lv_aload_n hx hb dX7_toldAt_0 rfl (lv_at hl 0 rfl) ?_
  refine lv_iload_n hx hb dX7_toldAt_1 rfl (lv_at hl 1 rfl) ?_
  obtain ⟨q1, h2, hF⟩ := ob_some hF
  refine k_Vv (As := [.int x1]) (rest := []) Z hK hP hS (t_X7_deedAt l G hG i0 x1 hk0 σ _ h2) (cwV 1 hts gX7_toldAt_X7_deedAt rfl rfl rfl (by decide +kernel) ⟨Nat.le_of_ble_eq_true rfl, Nat.le_of_ble_eq_true rfl⟩) (at_3 hk0) rfl rfl hl.1 rfl (Nat.le_of_ble_eq_true rfl) ⟨Nat.zero_le _, Nat.zero_le _⟩ dX7_toldAt_2 (fun H locs hP hS => ?_)
  rcases q1 with _ | i3
  · have hF := oc_n hF
    refine W.eq (g2 := F0 m 5 ls [.null]) rfl ?_
    refine lv_astore_nN (lv' := [(2, .null), (0, .ref (gA G i0)), (1, .int x1)]) hx hb dX7_toldAt_5 rfl hl (by decide) rfl (fun ls hl => ?_)
    refine lv_aload_nN hx hb dX7_toldAt_6 rfl (lv_at hl 0 rfl) ?_
    refine lv_ifnullN (tgt := 25) hx hb dX7_toldAt_7 (by decide) ?_
    refine lv_null hx hb dX7_toldAt_25 ?_
    exact e_aP (q := none) hx hb hr hP hS hlocks dX7_toldAt_26 rfl hF
  · have hF := oc_s hF
    have ki3 : kd i3 = 1 := q_X7_deedAt hk0 h2
    refine W.eq (g2 := F0 m 5 ls [.ref (gA G i3)]) rfl ?_
    refine lv_astore_n (lv' := [(2, .ref (gA G i3)), (0, .ref (gA G i0)), (1, .int x1)]) hx hb dX7_toldAt_5 rfl hl (by decide) rfl (fun ls hl => ?_)
    refine lv_aload_n hx hb dX7_toldAt_6 rfl (lv_at hl 0 rfl) ?_
    refine lv_ifnull hx hb dX7_toldAt_7 ?_
    refine lv_aload_n hx hb dX7_toldAt_10 rfl (lv_at hl 0 rfl) ?_
    refine va_getN (ci := 1) (C := RX1) (T := TX1) (N := 7) (v := .int (σ i3 2)) hx hb hts inX1 hown hK.1 hP i3 (at_1 ki3) rfl 2 (by decide) w1 (fun _ h9 => h9) rfl dX7_toldAt_11 ?_
    refine lv_aload_n hx hb dX7_toldAt_14 rfl (lv_at hl 1 rfl) ?_
    refine va_get (ci := 3) (C := RX7) (T := TX7) (N := 4) (v := .int (σ i0 3)) hx hb hts inX7 hown hK.1 hP i0 (at_3 hk0) rfl 3 (by decide) w2 (fun _ h9 => h9) rfl dX7_toldAt_15 ?_
    refine lv_icmp_gt (tgt := 25) hx hb dX7_toldAt_18 (by decide) (fun c4 => ?_) (fun c4 => ?_)
    · have hF := ite_t c4 hF
      refine lv_null hx hb dX7_toldAt_25 ?_
      exact e_aP (q := none) hx hb hr hP hS hlocks dX7_toldAt_26 rfl hF
    · have hF := ite_f c4 hF
      refine lv_aload_n hx hb dX7_toldAt_21 rfl (lv_at hl 0 rfl) ?_
      refine lv_goto (tgt := 26) hx hb dX7_toldAt_22 (by decide) ?_
      exact e_aP (q := some i3) hx hb hr hP hS hlocks dX7_toldAt_26 rfl hF
theorem q_X7_toldAt {i0 : Nat} {x1 : Int32} {σ : St} {i : Nat} (hk0 : kd i0 = 3) (h : f_X7_toldAt i0 x1 σ = some (some i)) : kd i = 1 := by
  unfold f_X7_toldAt at h
  obtain ⟨q, h1, h⟩ := ob_some h
  cases q with
  | none => cases (oc_n h)
  | some j =>
    have h := oc_s h
    by_cases c1 : σ i0 3 < σ j 2
    · rw [if_pos c1] at h; cases h
    · rw [if_neg c1] at h
      cases h
      exact q_X7_deedAt hk0 h1
def f_X7_lastDay (i0 : Nat) (σ : St) : Int32 := (if (364 : Int32) < σ i0 3 then (364 : Int32) else σ i0 3)
set_option maxRecDepth 100000 in
set_option maxHeartbeats 4000000 in
theorem t_X7_lastDay (l : Launch) (G : GT) (hG : Dw G) (i0 : Nat) (hk0 : kd i0 = 3) (σ : St) : Ct l G yX7_lastDay wsX7_lastDay 1 21 [.ref (gA G i0)] σ (some (.int (f_X7_lastDay i0 σ))) σ := by
  obtain ⟨o, hF⟩ : ∃ o, f_X7_lastDay i0 σ = o := ⟨_, rfl⟩
  rw [hF]
  refine Met.ofW (cc := cX7_lastDay) (maxL := 1) (ret := (some .int)) (by decide) rfl ?_
  intro p e s m args below meth c s₁ B hml hv
  obtain ⟨rfl, hP, hK⟩ := hv
  have hx := B.exec
  have hb := B.bytes
  have hr := B.returns
  have hts := atoms_spec (ws := wsX7_lastDay) B.pre
  have hown : s.vm.findClass RX7 = some m.cls := findClass_of_methodNamed B.named
  have hlocks := B.notSynchronized
  have Z : CallFix p m c cX7_lastDay 1 s _ wsX7_lastDay RX7 := ⟨hx, hb, hml, hown, hts⟩
  have hS : va_S (AG G) s.heap s.heap [] := va_S.rf
  have inX7 : ∀ w ∈ u_ws RX7 TX7 4, w ∈ wsX7_lastDay := by decide +kernel
  have w1 := hts (.fieldLink RX7 26 "AlmanacOfTheYearGone$Year" "day" "I") (by decide +kernel)
  have w2 := hts (.methodLink RX7 54 Lib.Math.min.name) (by decide +kernel)
  have w3 := hts (.static Lib.Math.min.name) (by decide +kernel)
  have w4 := hts (.initialized "java/lang/Math") (by decide +kernel)
  have w5 := hts (.code Lib.Math.min.name Lib.Math.min.code 2 (some .int)) (by decide +kernel)
  have hl := lv_entry ([.ref (gA G i0)]) (n := 1) (Nat.le_of_ble_eq_true rfl)
  rw [lg_entry_eq]
  generalize (lg_sl ([.ref (gA G i0)]) ++ List.replicate (1 - (lg_sl ([.ref (gA G i0)])).length) Slot.unset).toArray = ls at hl ⊢
  have hl : lv_has ls 1 [(0, .ref (gA G i0))] := hl
  unfold f_X7_lastDay at hF
  refine lv_aload_n hx hb dX7_lastDay_0 rfl (lv_at hl 0 rfl) ?_
  refine va_get (ci := 3) (C := RX7) (T := TX7) (N := 4) (v := .int (σ i0 3)) hx hb hts inX7 hown hK.1 hP i0 (at_3 hk0) rfl 3 (by decide) w1 (fun _ h9 => h9) rfl dX7_lastDay_1 ?_
  refine lv_sipush (v := 364) hx hb dX7_lastDay_4 (by decide) ?_
  refine va_mmin hx hb (hml.trans hl.1.symm) hown w2 w3 w4 w5 (Nat.le_of_ble_eq_true rfl) (Nat.le_of_ble_eq_true rfl) (Nat.zero_le _) (Nat.zero_le _) dX7_lastDay_7 ?_
  exact e_iT hx hb hr hP hS hlocks dX7_lastDay_10 hF
def f_X7_toldCount_26 (i0 : Nat) (σ : St) (rec4 : Int32 → Int32 → Option Int32) (v2 : Int32) (z0 : Int32) (z1 : Int32) : Option Int32 := (rec4 (z0 + z1) (v2 + (1 : Int32)))
theorem f_X7_toldCount_26_e {i0 : Nat} {σ : St} {rec4 : Int32 → Int32 → Option Int32} {v2 : Int32} {z0 : Int32} {z1 : Int32} : f_X7_toldCount_26 i0 σ rec4 v2 z0 z1 = (rec4 (z0 + z1) (v2 + (1 : Int32))) := rfl
def f_X7_toldCount_4 (i0 : Nat) (σ : St) : Nat → (Int32 → Int32 → Option Int32)
  | 0 => fun _ _ => none
  | fl + 1 => fun v1 v2 => (if (σ i0 2) ≤ v2 then (some v1) else (ob (f_X7_toldAt i0 v2 σ) (fun q2 => oc q2 ((f_X7_toldCount_26 i0 σ (f_X7_toldCount_4 i0 σ fl) v2 v1 (0 : Int32))) (fun i4 => (f_X7_toldCount_26 i0 σ (f_X7_toldCount_4 i0 σ fl) v2 v1 (1 : Int32))))))
theorem f_X7_toldCount_4_s {i0 : Nat} {σ : St} (fl : Nat) {v1 : Int32} {v2 : Int32} : f_X7_toldCount_4 i0 σ (fl + 1) v1 v2 = (if (σ i0 2) ≤ v2 then (some v1) else (ob (f_X7_toldAt i0 v2 σ) (fun q2 => oc q2 ((f_X7_toldCount_26 i0 σ (f_X7_toldCount_4 i0 σ fl) v2 v1 (0 : Int32))) (fun i4 => (f_X7_toldCount_26 i0 σ (f_X7_toldCount_4 i0 σ fl) v2 v1 (1 : Int32)))))) := rfl
def f_X7_toldCount (i0 : Nat) (σ : St) : Option Int32 := (f_X7_toldCount_4 i0 σ fu (0 : Int32) (0 : Int32))
set_option maxRecDepth 100000 in
set_option maxHeartbeats 4000000 in
theorem t_X7_toldCount (l : Launch) (G : GT) (hG : Dw G) (i0 : Nat) (hk0 : kd i0 = 3) (σ : St) (o : Int32) (hF : f_X7_toldCount i0 σ = some o) : Ct l G yX7_toldCount wsX7_toldCount 2 43 [.ref (gA G i0)] σ (some (.int o)) σ := by
  refine Met.ofW (cc := cX7_toldCount) (maxL := 3) (ret := (some .int)) (by decide) rfl ?_
  intro p e s m args below meth c s₁ B hml hv
  obtain ⟨rfl, hP, hK⟩ := hv
  have hx := B.exec
  have hb := B.bytes
  have hr := B.returns
  have hts := atoms_spec (ws := wsX7_toldCount) B.pre
  have hown : s.vm.findClass RX7 = some m.cls := findClass_of_methodNamed B.named
  have hlocks := B.notSynchronized
  have Z : CallFix p m c cX7_toldCount 3 s _ wsX7_toldCount RX7 := ⟨hx, hb, hml, hown, hts⟩
  have hS : va_S (AG G) s.heap s.heap [] := va_S.rf
  have inX7 : ∀ w ∈ u_ws RX7 TX7 4, w ∈ wsX7_toldCount := by decide +kernel
  have w1 := hts (.fieldLink RX7 22 "AlmanacOfTheYearGone$Year" "deedCount" "I") (by decide +kernel)
  have hl := lv_entry ([.ref (gA G i0)]) (n := 3) (Nat.le_of_ble_eq_true rfl)
  rw [lg_entry_eq]
  generalize (lg_sl ([.ref (gA G i0)]) ++ List.replicate (3 - (lg_sl ([.ref (gA G i0)])).length) Slot.unset).toArray = ls at hl ⊢
  have hl : lv_has ls 3 [(0, .ref (gA G i0))] := hl
  unfold f_X7_toldCount at hF
  refine lv_iconst (v := 0) hx hb dX7_toldCount_0 (by decide) ?_
  refine lv_istore_n (lv' := [(1, .int (0 : Int32)), (0, .ref (gA G i0))]) hx hb dX7_toldCount_1 rfl hl (by decide) rfl (fun ls hl => ?_)
  refine lv_iconst (v := 0) hx hb dX7_toldCount_2 (by decide) ?_
  have J4 : ∀ (fl : Nat) (v1 : Int32) (v2 : Int32) (H : Heap) (locs : List Loc) (hP : Pw G σ H) (hS : va_S (AG G) s.heap H locs) (ls : Array Slot) (hl : lv_has ls 3 [(0, .ref (gA G i0)), (1, .int v1), (2, .int v2)]) (hF : f_X7_toldCount_4 i0 σ fl v1 v2 = some o), W p l e (headSpec wsX7_toldCount ({ frames := 2, cells := 0, slots := 0, locals := 43 })).room s m ([.ref (gA G i0)] : List Value).toArray below meth c H locs 0 0 (MQ below (qR G (some (.int o)) σ) ([.ref (gA G i0)] : List Value).toArray s 0 0 (AG G)) (F0 m 4 ls []) := by
    intro fl4
    induction fl4 with
    | zero => intro v1 v2 H locs hP hS ls hl hF; cases hF
    | succ fl4 ih4 =>
      intro v1 v2 H locs hP hS ls hl hF
      rw [f_X7_toldCount_4_s] at hF
      refine lv_iload_n hx hb dX7_toldCount_4 rfl (lv_at hl 2 rfl) ?_
      refine lv_aload_n hx hb dX7_toldCount_5 rfl (lv_at hl 0 rfl) ?_
      refine va_get (ci := 3) (C := RX7) (T := TX7) (N := 4) (v := .int (σ i0 2)) hx hb hts inX7 hown hK.1 hP i0 (at_3 hk0) rfl 2 (by decide) w1 (fun _ h9 => h9) rfl dX7_toldCount_6 ?_
      refine lv_icmp_ge (tgt := 34) hx hb dX7_toldCount_9 (by decide) (fun c1 => ?_) (fun c1 => ?_)
      · have hF := ite_t c1 hF
        refine lv_iload_n hx hb dX7_toldCount_34 rfl (lv_at hl 1 rfl) ?_
        exact e_iP hx hb hr hP hS hlocks dX7_toldCount_35 hF
      · have hF := ite_f c1 hF
        refine lv_iload_n hx hb dX7_toldCount_12 rfl (lv_at hl 1 rfl) ?_
        refine lv_aload_n hx hb dX7_toldCount_13 rfl (lv_at hl 0 rfl) ?_
        refine lv_iload_n hx hb dX7_toldCount_14 rfl (lv_at hl 2 rfl) ?_
        obtain ⟨q2, h3, hF⟩ := ob_some hF
        refine k_Vv (As := [.int v2]) (rest := [.int v1]) Z hK hP hS (t_X7_toldAt l G hG i0 v2 hk0 σ _ h3) (cwV 1 hts gX7_toldCount_X7_toldAt rfl rfl rfl (by decide +kernel) ⟨Nat.le_of_ble_eq_true rfl, Nat.le_of_ble_eq_true rfl⟩) (at_3 hk0) rfl rfl hl.1 rfl (Nat.le_of_ble_eq_true rfl) ⟨Nat.zero_le _, Nat.zero_le _⟩ dX7_toldCount_15 (fun H locs hP hS => ?_)
        rcases q2 with _ | i4
        · have hF := oc_n hF
          refine W.eq (g2 := F0 m 18 ls [.null, .int v1]) rfl ?_
          have J26 : ∀ (v2 : Int32) (z0 : Int32) (z1 : Int32) (H : Heap) (locs : List Loc) (hP : Pw G σ H) (hS : va_S (AG G) s.heap H locs) (ls : Array Slot) (hl : lv_has ls 3 [(0, .ref (gA G i0)), (2, .int v2)]) (hF : f_X7_toldCount_26 i0 σ (f_X7_toldCount_4 i0 σ fl4) v2 z0 z1 = some o), W p l e (headSpec wsX7_toldCount ({ frames := 2, cells := 0, slots := 0, locals := 43 })).room s m ([.ref (gA G i0)] : List Value).toArray below meth c H locs 0 0 (MQ below (qR G (some (.int o)) σ) ([.ref (gA G i0)] : List Value).toArray s 0 0 (AG G)) (F0 m 26 ls [.int z1, .int z0]) := by
            intro v2 z0 z1 H locs hP hS ls hl hF
            rw [f_X7_toldCount_26_e] at hF
            refine lv_iadd hx hb dX7_toldCount_26 ?_
            refine lv_istore_n (lv' := [(1, .int (z0 + z1)), (0, .ref (gA G i0)), (2, .int v2)]) hx hb dX7_toldCount_27 rfl hl (by decide) rfl (fun ls hl => ?_)
            refine lv_iinc (v := (v2 + (1 : Int32))) (lv' := [(2, .int (v2 + (1 : Int32))), (1, .int (z0 + z1)), (0, .ref (gA G i0))]) hx hb dX7_toldCount_28 hl (k := 2) rfl rfl (by decide) rfl (fun ls hl => ?_)
            refine lv_goto (tgt := 4) hx hb dX7_toldCount_31 (by decide) ?_
            exact ih4 (z0 + z1) (v2 + (1 : Int32)) _ _ hP hS ls (lv_sub hl [2, 1, 0] rfl) hF
          refine lv_ifnullN (tgt := 25) hx hb dX7_toldCount_18 (by decide) ?_
          refine lv_iconst (v := 0) hx hb dX7_toldCount_25 (by decide) ?_
          exact J26 v2 v1 (0 : Int32) _ _ hP hS ls (lv_sub hl [0, 2] rfl) hF
        · have hF := oc_s hF
          have ki4 : kd i4 = 1 := q_X7_toldAt hk0 h3
          refine W.eq (g2 := F0 m 18 ls [.ref (gA G i4), .int v1]) rfl ?_
          have J26 : ∀ (v2 : Int32) (z0 : Int32) (z1 : Int32) (H : Heap) (locs : List Loc) (hP : Pw G σ H) (hS : va_S (AG G) s.heap H locs) (ls : Array Slot) (hl : lv_has ls 3 [(0, .ref (gA G i0)), (2, .int v2)]) (hF : f_X7_toldCount_26 i0 σ (f_X7_toldCount_4 i0 σ fl4) v2 z0 z1 = some o), W p l e (headSpec wsX7_toldCount ({ frames := 2, cells := 0, slots := 0, locals := 43 })).room s m ([.ref (gA G i0)] : List Value).toArray below meth c H locs 0 0 (MQ below (qR G (some (.int o)) σ) ([.ref (gA G i0)] : List Value).toArray s 0 0 (AG G)) (F0 m 26 ls [.int z1, .int z0]) := by
            intro v2 z0 z1 H locs hP hS ls hl hF
            rw [f_X7_toldCount_26_e] at hF
            refine lv_iadd hx hb dX7_toldCount_26 ?_
            refine lv_istore_n (lv' := [(1, .int (z0 + z1)), (0, .ref (gA G i0)), (2, .int v2)]) hx hb dX7_toldCount_27 rfl hl (by decide) rfl (fun ls hl => ?_)
            refine lv_iinc (v := (v2 + (1 : Int32))) (lv' := [(2, .int (v2 + (1 : Int32))), (1, .int (z0 + z1)), (0, .ref (gA G i0))]) hx hb dX7_toldCount_28 hl (k := 2) rfl rfl (by decide) rfl (fun ls hl => ?_)
            refine lv_goto (tgt := 4) hx hb dX7_toldCount_31 (by decide) ?_
            exact ih4 (z0 + z1) (v2 + (1 : Int32)) _ _ hP hS ls (lv_sub hl [2, 1, 0] rfl) hF
          refine lv_ifnull hx hb dX7_toldCount_18 ?_
          refine lv_iconst (v := 1) hx hb dX7_toldCount_21 (by decide) ?_
          refine lv_goto (tgt := 26) hx hb dX7_toldCount_22 (by decide) ?_
          exact J26 v2 v1 (1 : Int32) _ _ hP hS ls (lv_sub hl [0, 2] rfl) hF
  refine lv_istore_n (lv' := [(2, .int (0 : Int32)), (1, .int (0 : Int32)), (0, .ref (gA G i0))]) hx hb dX7_toldCount_3 rfl hl (by decide) rfl (fun ls hl => ?_)
  exact J4 fu (0 : Int32) (0 : Int32) _ _ hP hS ls (lv_sub hl [2, 1, 0] rfl) hF
def f_X7_memoryOf_44 (i0 : Nat) (x1 : Int32) (x2 : Int32) (σ : St) (rec5 : Int32 → Int32 → Option Int32) (v3 : Int32) (v4 : Int32) : Option Int32 := (rec5 v3 (v4 + (1 : Int32)))
theorem f_X7_memoryOf_44_e {i0 : Nat} {x1 : Int32} {x2 : Int32} {σ : St} {rec5 : Int32 → Int32 → Option Int32} {v3 : Int32} {v4 : Int32} : f_X7_memoryOf_44 i0 x1 x2 σ rec5 v3 v4 = (rec5 v3 (v4 + (1 : Int32))) := rfl
def f_X7_memoryOf_5 (i0 : Nat) (x1 : Int32) (x2 : Int32) (σ : St) : Nat → (Int32 → Int32 → Option Int32)
  | 0 => fun _ _ => none
  | fl + 1 => fun v3 v4 => (if (σ i0 2) ≤ v4 then (some v3) else (ob (f_X7_deedAt i0 v4 σ) (fun q2 => oc q2 ((f_X7_memoryOf_44 i0 x1 x2 σ (f_X7_memoryOf_5 i0 x1 x2 σ fl) v3 v4)) (fun i4 => (if (f_X1_isKept i4 x1 x2 σ) = true then (f_X7_memoryOf_44 i0 x1 x2 σ (f_X7_memoryOf_5 i0 x1 x2 σ fl) (v3 ||| ((1 : Int32) <<< (v4 &&& 31))) v4) else f_X7_memoryOf_44 i0 x1 x2 σ (f_X7_memoryOf_5 i0 x1 x2 σ fl) v3 v4)))))
theorem f_X7_memoryOf_5_s {i0 : Nat} {x1 : Int32} {x2 : Int32} {σ : St} (fl : Nat) {v3 : Int32} {v4 : Int32} : f_X7_memoryOf_5 i0 x1 x2 σ (fl + 1) v3 v4 = (if (σ i0 2) ≤ v4 then (some v3) else (ob (f_X7_deedAt i0 v4 σ) (fun q2 => oc q2 ((f_X7_memoryOf_44 i0 x1 x2 σ (f_X7_memoryOf_5 i0 x1 x2 σ fl) v3 v4)) (fun i4 => (if (f_X1_isKept i4 x1 x2 σ) = true then (f_X7_memoryOf_44 i0 x1 x2 σ (f_X7_memoryOf_5 i0 x1 x2 σ fl) (v3 ||| ((1 : Int32) <<< (v4 &&& 31))) v4) else f_X7_memoryOf_44 i0 x1 x2 σ (f_X7_memoryOf_5 i0 x1 x2 σ fl) v3 v4))))) := rfl
def f_X7_memoryOf (i0 : Nat) (x1 : Int32) (x2 : Int32) (σ : St) : Option Int32 := (f_X7_memoryOf_5 i0 x1 x2 σ fu (0 : Int32) (0 : Int32))
set_option maxRecDepth 100000 in
set_option maxHeartbeats 4000000 in
theorem t_X7_memoryOf (l : Launch) (G : GT) (hG : Dw G) (i0 : Nat) (x1 : Int32) (x2 : Int32) (hk0 : kd i0 = 3) (σ : St) (o : Int32) (hF : f_X7_memoryOf i0 x1 x2 σ = some o) : Ct l G yX7_memoryOf wsX7_memoryOf 2 43 [.ref (gA G i0), .int x1, .int x2] σ (some (.int o)) σ := by
  refine Met.ofW (cc := cX7_memoryOf) (maxL := 6) (ret := (some .int)) (by decide) rfl ?_
  intro p e s m args below meth c s₁ B hml hv
  obtain ⟨rfl, hP, hK⟩ := hv
  have hx := B.exec
  have hb := B.bytes
  have hr := B.returns
  have hts := atoms_spec (ws := wsX7_memoryOf) B.pre
  have hown : s.vm.findClass RX7 = some m.cls := findClass_of_methodNamed B.named
  have hlocks := B.notSynchronized
  have Z : CallFix p m c cX7_memoryOf 6 s _ wsX7_memoryOf RX7 := ⟨hx, hb, hml, hown, hts⟩
  have hS : va_S (AG G) s.heap s.heap [] := va_S.rf
  have inX7 : ∀ w ∈ u_ws RX7 TX7 4, w ∈ wsX7_memoryOf := by decide +kernel
  have w1 := hts (.fieldLink RX7 22 "AlmanacOfTheYearGone$Year" "deedCount" "I") (by decide +kernel)
  have w2 := hts (.initialized RX1) (by decide +kernel)
  have w3n : va_Nw (.methodLinkNest "AlmanacOfTheYearGone$Year" 63 ⟨"AlmanacOfTheYearGone$Deed", "isKept", "(II)Z"⟩ "AlmanacOfTheYearGone") s := hK.2 _ (List.mem_of_getElem? (i := 61) rfl)
  have w3 := va_Nw.use (A := [.ref (gA G i0), .int x1, .int x2].toArray) rfl w3n
  have w4 := hts (.instanceMethod yX1_isKept) (by decide +kernel)
  have w5 := hts (.selects RX1 yX1_isKept yX1_isKept) (by decide +kernel)
  have hl := lv_entry ([.ref (gA G i0), .int x1, .int x2]) (n := 6) (Nat.le_of_ble_eq_true rfl)
  rw [lg_entry_eq]
  generalize (lg_sl ([.ref (gA G i0), .int x1, .int x2]) ++ List.replicate (6 - (lg_sl ([.ref (gA G i0), .int x1, .int x2])).length) Slot.unset).toArray = ls at hl ⊢
  have hl : lv_has ls 6 [(0, .ref (gA G i0)), (1, .int x1), (2, .int x2)] := hl
  unfold f_X7_memoryOf at hF
  refine lv_iconst (v := 0) hx hb dX7_memoryOf_0 (by decide) ?_
  refine lv_istore_n (lv' := [(3, .int (0 : Int32)), (0, .ref (gA G i0)), (1, .int x1), (2, .int x2)]) hx hb dX7_memoryOf_1 rfl hl (by decide) rfl (fun ls hl => ?_)
  refine lv_iconst (v := 0) hx hb dX7_memoryOf_2 (by decide) ?_
  have J5 : ∀ (fl : Nat) (v3 : Int32) (v4 : Int32) (H : Heap) (locs : List Loc) (hP : Pw G σ H) (hS : va_S (AG G) s.heap H locs) (ls : Array Slot) (hl : lv_has ls 6 [(0, .ref (gA G i0)), (1, .int x1), (2, .int x2), (3, .int v3), (4, .int v4)]) (hF : f_X7_memoryOf_5 i0 x1 x2 σ fl v3 v4 = some o), W p l e (headSpec wsX7_memoryOf ({ frames := 2, cells := 0, slots := 0, locals := 43 })).room s m ([.ref (gA G i0), .int x1, .int x2] : List Value).toArray below meth c H locs 0 0 (MQ below (qR G (some (.int o)) σ) ([.ref (gA G i0), .int x1, .int x2] : List Value).toArray s 0 0 (AG G)) (F0 m 5 ls []) := by
    intro fl5
    induction fl5 with
    | zero => intro v3 v4 H locs hP hS ls hl hF; cases hF
    | succ fl5 ih5 =>
      intro v3 v4 H locs hP hS ls hl hF
      rw [f_X7_memoryOf_5_s] at hF
      refine lv_iload hx hb dX7_memoryOf_5 (lv_at hl 4 rfl) ?_
      refine lv_aload_n hx hb dX7_memoryOf_7 rfl (lv_at hl 0 rfl) ?_
      refine va_get (ci := 3) (C := RX7) (T := TX7) (N := 4) (v := .int (σ i0 2)) hx hb hts inX7 hown hK.1 hP i0 (at_3 hk0) rfl 2 (by decide) w1 (fun _ h9 => h9) rfl dX7_memoryOf_8 ?_
      refine lv_icmp_ge (tgt := 50) hx hb dX7_memoryOf_11 (by decide) (fun c1 => ?_) (fun c1 => ?_)
      · have hF := ite_t c1 hF
        refine lv_iload_n hx hb dX7_memoryOf_50 rfl (lv_at hl 3 rfl) ?_
        exact e_iP hx hb hr hP hS hlocks dX7_memoryOf_51 hF
      · have hF := ite_f c1 hF
        refine lv_aload_n hx hb dX7_memoryOf_14 rfl (lv_at hl 0 rfl) ?_
        refine lv_iload hx hb dX7_memoryOf_15 (lv_at hl 4 rfl) ?_
        obtain ⟨q2, h3, hF⟩ := ob_some hF
        refine k_Vv (As := [.int v4]) (rest := []) Z hK hP hS (t_X7_deedAt l G hG i0 v4 hk0 σ _ h3) (cwV 1 hts gX7_memoryOf_X7_deedAt rfl rfl rfl (by decide +kernel) ⟨Nat.le_of_ble_eq_true rfl, Nat.le_of_ble_eq_true rfl⟩) (at_3 hk0) rfl rfl hl.1 rfl (Nat.le_of_ble_eq_true rfl) ⟨Nat.zero_le _, Nat.zero_le _⟩ dX7_memoryOf_17 (fun H locs hP hS => ?_)
        rcases q2 with _ | i4
        · have hF := oc_n hF
          refine W.eq (g2 := F0 m 20 ls [.null]) rfl ?_
          refine lv_astoreN (lv' := [(5, .null), (0, .ref (gA G i0)), (1, .int x1), (2, .int x2), (3, .int v3), (4, .int v4)]) hx hb dX7_memoryOf_20 hl (by decide) rfl (fun ls hl => ?_)
          refine lv_aloadN hx hb dX7_memoryOf_22 (lv_at hl 0 rfl) ?_
          have J44 : ∀ (v3 : Int32) (v4 : Int32) (H : Heap) (locs : List Loc) (hP : Pw G σ H) (hS : va_S (AG G) s.heap H locs) (ls : Array Slot) (hl : lv_has ls 6 [(0, .ref (gA G i0)), (1, .int x1), (2, .int x2), (3, .int v3), (4, .int v4)]) (hF : f_X7_memoryOf_44 i0 x1 x2 σ (f_X7_memoryOf_5 i0 x1 x2 σ fl5) v3 v4 = some o), W p l e (headSpec wsX7_memoryOf ({ frames := 2, cells := 0, slots := 0, locals := 43 })).room s m ([.ref (gA G i0), .int x1, .int x2] : List Value).toArray below meth c H locs 0 0 (MQ below (qR G (some (.int o)) σ) ([.ref (gA G i0), .int x1, .int x2] : List Value).toArray s 0 0 (AG G)) (F0 m 44 ls []) := by
            intro v3 v4 H locs hP hS ls hl hF
            rw [f_X7_memoryOf_44_e] at hF
            refine lv_iinc (v := (v4 + (1 : Int32))) (lv' := [(4, .int (v4 + (1 : Int32))), (0, .ref (gA G i0)), (1, .int x1), (2, .int x2), (3, .int v3)]) hx hb dX7_memoryOf_44 hl (k := 4) rfl rfl (by decide) rfl (fun ls hl => ?_)
            refine lv_goto (tgt := 5) hx hb dX7_memoryOf_47 (by decide) ?_
            exact ih5 v3 (v4 + (1 : Int32)) _ _ hP hS ls (lv_sub hl [1, 2, 3, 4, 0] rfl) hF
          refine lv_ifnullN (tgt := 44) hx hb dX7_memoryOf_24 (by decide) ?_
          exact J44 v3 v4 _ _ hP hS ls (lv_sub hl [1, 2, 3, 4, 5] rfl) hF
        · have hF := oc_s hF
          have ki4 : kd i4 = 1 := q_X7_deedAt hk0 h3
          refine W.eq (g2 := F0 m 20 ls [.ref (gA G i4)]) rfl ?_
          refine lv_astore (lv' := [(5, .ref (gA G i4)), (0, .ref (gA G i0)), (1, .int x1), (2, .int x2), (3, .int v3), (4, .int v4)]) hx hb dX7_memoryOf_20 hl (by decide) rfl (fun ls hl => ?_)
          refine lv_aload hx hb dX7_memoryOf_22 (lv_at hl 0 rfl) ?_
          have J44 : ∀ (v3 : Int32) (v4 : Int32) (H : Heap) (locs : List Loc) (hP : Pw G σ H) (hS : va_S (AG G) s.heap H locs) (ls : Array Slot) (hl : lv_has ls 6 [(0, .ref (gA G i0)), (1, .int x1), (2, .int x2), (3, .int v3), (4, .int v4)]) (hF : f_X7_memoryOf_44 i0 x1 x2 σ (f_X7_memoryOf_5 i0 x1 x2 σ fl5) v3 v4 = some o), W p l e (headSpec wsX7_memoryOf ({ frames := 2, cells := 0, slots := 0, locals := 43 })).room s m ([.ref (gA G i0), .int x1, .int x2] : List Value).toArray below meth c H locs 0 0 (MQ below (qR G (some (.int o)) σ) ([.ref (gA G i0), .int x1, .int x2] : List Value).toArray s 0 0 (AG G)) (F0 m 44 ls []) := by
            intro v3 v4 H locs hP hS ls hl hF
            rw [f_X7_memoryOf_44_e] at hF
            refine lv_iinc (v := (v4 + (1 : Int32))) (lv' := [(4, .int (v4 + (1 : Int32))), (0, .ref (gA G i0)), (1, .int x1), (2, .int x2), (3, .int v3)]) hx hb dX7_memoryOf_44 hl (k := 4) rfl rfl (by decide) rfl (fun ls hl => ?_)
            refine lv_goto (tgt := 5) hx hb dX7_memoryOf_47 (by decide) ?_
            exact ih5 v3 (v4 + (1 : Int32)) _ _ hP hS ls (lv_sub hl [1, 2, 3, 4, 0] rfl) hF
          refine lv_ifnull hx hb dX7_memoryOf_24 ?_
          refine lv_aload hx hb dX7_memoryOf_27 (lv_at hl 0 rfl) ?_
          refine lv_iload_n hx hb dX7_memoryOf_29 rfl (lv_at hl 2 rfl) ?_
          refine lv_iload_n hx hb dX7_memoryOf_30 rfl (lv_at hl 3 rfl) ?_
          refine k_VNv (As := [.int x1, .int x2]) (rest := []) Z hK hP hS (t_X1_isKept l G hG i4 x1 x2 ki4 σ) ⟨va_cnB 2 hts gX7_memoryOf_X1_isKept_n63 rfl rfl rfl w3n w2 (by decide +kernel) ⟨Nat.le_of_ble_eq_true rfl, Nat.le_of_ble_eq_true rfl⟩, w4, w5⟩ (at_1 ki4) rfl rfl hl.1 rfl (Nat.le_of_ble_eq_true rfl) ⟨Nat.zero_le _, Nat.zero_le _⟩ dX7_memoryOf_31 (fun H locs hP hS => ?_)
          refine lv_if_eq (tgt := 44) hx hb dX7_memoryOf_34 (by decide) (fun c5 => ?_) (fun c5 => ?_)
          · have hF := ite_f (b2i_e0 c5) hF
            exact J44 v3 v4 _ _ hP hS ls (lv_sub hl [1, 2, 3, 4, 5] rfl) hF
          · have hF := ite_t (b2i_n0 c5) hF
            refine lv_iload_n hx hb dX7_memoryOf_37 rfl (lv_at hl 4 rfl) ?_
            refine lv_iconst (v := 1) hx hb dX7_memoryOf_38 (by decide) ?_
            refine lv_iload hx hb dX7_memoryOf_39 (lv_at hl 5 rfl) ?_
            refine lv_ishl hx hb dX7_memoryOf_41 ?_
            refine lv_ior hx hb dX7_memoryOf_42 ?_
            refine lv_istore_n (lv' := [(3, .int (v3 ||| ((1 : Int32) <<< (v4 &&& 31)))), (5, .ref (gA G i4)), (0, .ref (gA G i0)), (1, .int x1), (2, .int x2), (4, .int v4)]) hx hb dX7_memoryOf_43 rfl hl (by decide) rfl (fun ls hl => ?_)
            exact J44 (v3 ||| ((1 : Int32) <<< (v4 &&& 31))) v4 _ _ hP hS ls (lv_sub hl [2, 3, 4, 0, 5] rfl) hF
  refine lv_istore (lv' := [(4, .int (0 : Int32)), (3, .int (0 : Int32)), (0, .ref (gA G i0)), (1, .int x1), (2, .int x2)]) hx hb dX7_memoryOf_3 hl (by decide) rfl (fun ls hl => ?_)
  exact J5 fu (0 : Int32) (0 : Int32) _ _ hP hS ls (lv_sub hl [2, 3, 4, 1, 0] rfl) hF
def f_X7_memoryOfGroup_44 (i0 : Nat) (x1 : Int32) (σ : St) (rec4 : Int32 → Int32 → Option Int32) (v2 : Int32) (v3 : Int32) : Option Int32 := (rec4 v2 (v3 + (1 : Int32)))
theorem f_X7_memoryOfGroup_44_e {i0 : Nat} {x1 : Int32} {σ : St} {rec4 : Int32 → Int32 → Option Int32} {v2 : Int32} {v3 : Int32} : f_X7_memoryOfGroup_44 i0 x1 σ rec4 v2 v3 = (rec4 v2 (v3 + (1 : Int32))) := rfl
def f_X7_memoryOfGroup_4 (i0 : Nat) (x1 : Int32) (σ : St) : Nat → (Int32 → Int32 → Option Int32)
  | 0 => fun _ _ => none
  | fl + 1 => fun v2 v3 => (if (σ i0 2) ≤ v3 then (some v2) else (ob (f_X7_toldAt i0 v3 σ) (fun q2 => oc q2 ((f_X7_memoryOfGroup_44 i0 x1 σ (f_X7_memoryOfGroup_4 i0 x1 σ fl) v2 v3)) (fun i4 => (if ((f_X1_keepers i4 (σ i0 3) σ) &&& x1) = 0 then f_X7_memoryOfGroup_44 i0 x1 σ (f_X7_memoryOfGroup_4 i0 x1 σ fl) v2 v3 else (f_X7_memoryOfGroup_44 i0 x1 σ (f_X7_memoryOfGroup_4 i0 x1 σ fl) (v2 ||| ((1 : Int32) <<< (v3 &&& 31))) v3))))))
theorem f_X7_memoryOfGroup_4_s {i0 : Nat} {x1 : Int32} {σ : St} (fl : Nat) {v2 : Int32} {v3 : Int32} : f_X7_memoryOfGroup_4 i0 x1 σ (fl + 1) v2 v3 = (if (σ i0 2) ≤ v3 then (some v2) else (ob (f_X7_toldAt i0 v3 σ) (fun q2 => oc q2 ((f_X7_memoryOfGroup_44 i0 x1 σ (f_X7_memoryOfGroup_4 i0 x1 σ fl) v2 v3)) (fun i4 => (if ((f_X1_keepers i4 (σ i0 3) σ) &&& x1) = 0 then f_X7_memoryOfGroup_44 i0 x1 σ (f_X7_memoryOfGroup_4 i0 x1 σ fl) v2 v3 else (f_X7_memoryOfGroup_44 i0 x1 σ (f_X7_memoryOfGroup_4 i0 x1 σ fl) (v2 ||| ((1 : Int32) <<< (v3 &&& 31))) v3)))))) := rfl
def f_X7_memoryOfGroup (i0 : Nat) (x1 : Int32) (σ : St) : Option Int32 := (f_X7_memoryOfGroup_4 i0 x1 σ fu (0 : Int32) (0 : Int32))
set_option maxRecDepth 100000 in
set_option maxHeartbeats 4000000 in
theorem t_X7_memoryOfGroup (l : Launch) (G : GT) (hG : Dw G) (i0 : Nat) (x1 : Int32) (hk0 : kd i0 = 3) (σ : St) (o : Int32) (hF : f_X7_memoryOfGroup i0 x1 σ = some o) : Ct l G yX7_memoryOfGroup wsX7_memoryOfGroup 2 43 [.ref (gA G i0), .int x1] σ (some (.int o)) σ := by
  refine Met.ofW (cc := cX7_memoryOfGroup) (maxL := 5) (ret := (some .int)) (by decide) rfl ?_
  intro p e s m args below meth c s₁ B hml hv
  obtain ⟨rfl, hP, hK⟩ := hv
  have hx := B.exec
  have hb := B.bytes
  have hr := B.returns
  have hts := atoms_spec (ws := wsX7_memoryOfGroup) B.pre
  have hown : s.vm.findClass RX7 = some m.cls := findClass_of_methodNamed B.named
  have hlocks := B.notSynchronized
  have Z : CallFix p m c cX7_memoryOfGroup 5 s _ wsX7_memoryOfGroup RX7 := ⟨hx, hb, hml, hown, hts⟩
  have hS : va_S (AG G) s.heap s.heap [] := va_S.rf
  have inX7 : ∀ w ∈ u_ws RX7 TX7 4, w ∈ wsX7_memoryOfGroup := by decide +kernel
  have w1 := hts (.fieldLink RX7 22 "AlmanacOfTheYearGone$Year" "deedCount" "I") (by decide +kernel)
  have w2 := hts (.fieldLink RX7 26 "AlmanacOfTheYearGone$Year" "day" "I") (by decide +kernel)
  have w3 := hts (.initialized RX1) (by decide +kernel)
  have w4n : va_Nw (.methodLinkNest "AlmanacOfTheYearGone$Year" 67 ⟨"AlmanacOfTheYearGone$Deed", "keepers", "(I)I"⟩ "AlmanacOfTheYearGone") s := hK.2 _ (List.mem_of_getElem? (i := 63) rfl)
  have w4 := va_Nw.use (A := [.ref (gA G i0), .int x1].toArray) rfl w4n
  have w5 := hts (.instanceMethod yX1_keepers) (by decide +kernel)
  have w6 := hts (.selects RX1 yX1_keepers yX1_keepers) (by decide +kernel)
  have hl := lv_entry ([.ref (gA G i0), .int x1]) (n := 5) (Nat.le_of_ble_eq_true rfl)
  rw [lg_entry_eq]
  generalize (lg_sl ([.ref (gA G i0), .int x1]) ++ List.replicate (5 - (lg_sl ([.ref (gA G i0), .int x1])).length) Slot.unset).toArray = ls at hl ⊢
  have hl : lv_has ls 5 [(0, .ref (gA G i0)), (1, .int x1)] := hl
  unfold f_X7_memoryOfGroup at hF
  refine lv_iconst (v := 0) hx hb dX7_memoryOfGroup_0 (by decide) ?_
  refine lv_istore_n (lv' := [(2, .int (0 : Int32)), (0, .ref (gA G i0)), (1, .int x1)]) hx hb dX7_memoryOfGroup_1 rfl hl (by decide) rfl (fun ls hl => ?_)
  refine lv_iconst (v := 0) hx hb dX7_memoryOfGroup_2 (by decide) ?_
  have J4 : ∀ (fl : Nat) (v2 : Int32) (v3 : Int32) (H : Heap) (locs : List Loc) (hP : Pw G σ H) (hS : va_S (AG G) s.heap H locs) (ls : Array Slot) (hl : lv_has ls 5 [(0, .ref (gA G i0)), (1, .int x1), (2, .int v2), (3, .int v3)]) (hF : f_X7_memoryOfGroup_4 i0 x1 σ fl v2 v3 = some o), W p l e (headSpec wsX7_memoryOfGroup ({ frames := 2, cells := 0, slots := 0, locals := 43 })).room s m ([.ref (gA G i0), .int x1] : List Value).toArray below meth c H locs 0 0 (MQ below (qR G (some (.int o)) σ) ([.ref (gA G i0), .int x1] : List Value).toArray s 0 0 (AG G)) (F0 m 4 ls []) := by
    intro fl4
    induction fl4 with
    | zero => intro v2 v3 H locs hP hS ls hl hF; cases hF
    | succ fl4 ih4 =>
      intro v2 v3 H locs hP hS ls hl hF
      rw [f_X7_memoryOfGroup_4_s] at hF
      refine lv_iload_n hx hb dX7_memoryOfGroup_4 rfl (lv_at hl 3 rfl) ?_
      refine lv_aload_n hx hb dX7_memoryOfGroup_5 rfl (lv_at hl 0 rfl) ?_
      refine va_get (ci := 3) (C := RX7) (T := TX7) (N := 4) (v := .int (σ i0 2)) hx hb hts inX7 hown hK.1 hP i0 (at_3 hk0) rfl 2 (by decide) w1 (fun _ h9 => h9) rfl dX7_memoryOfGroup_6 ?_
      refine lv_icmp_ge (tgt := 50) hx hb dX7_memoryOfGroup_9 (by decide) (fun c1 => ?_) (fun c1 => ?_)
      · have hF := ite_t c1 hF
        refine lv_iload_n hx hb dX7_memoryOfGroup_50 rfl (lv_at hl 2 rfl) ?_
        exact e_iP hx hb hr hP hS hlocks dX7_memoryOfGroup_51 hF
      · have hF := ite_f c1 hF
        refine lv_aload_n hx hb dX7_memoryOfGroup_12 rfl (lv_at hl 0 rfl) ?_
        refine lv_iload_n hx hb dX7_memoryOfGroup_13 rfl (lv_at hl 3 rfl) ?_
        obtain ⟨q2, h3, hF⟩ := ob_some hF
        refine k_Vv (As := [.int v3]) (rest := []) Z hK hP hS (t_X7_toldAt l G hG i0 v3 hk0 σ _ h3) (cwV 1 hts gX7_memoryOfGroup_X7_toldAt rfl rfl rfl (by decide +kernel) ⟨Nat.le_of_ble_eq_true rfl, Nat.le_of_ble_eq_true rfl⟩) (at_3 hk0) rfl rfl hl.1 rfl (Nat.le_of_ble_eq_true rfl) ⟨Nat.zero_le _, Nat.zero_le _⟩ dX7_memoryOfGroup_14 (fun H locs hP hS => ?_)
        rcases q2 with _ | i4
        · have hF := oc_n hF
          refine W.eq (g2 := F0 m 17 ls [.null]) rfl ?_
          refine lv_astoreN (lv' := [(4, .null), (0, .ref (gA G i0)), (1, .int x1), (2, .int v2), (3, .int v3)]) hx hb dX7_memoryOfGroup_17 hl (by decide) rfl (fun ls hl => ?_)
          refine lv_aloadN hx hb dX7_memoryOfGroup_19 (lv_at hl 0 rfl) ?_
          have J44 : ∀ (v2 : Int32) (v3 : Int32) (H : Heap) (locs : List Loc) (hP : Pw G σ H) (hS : va_S (AG G) s.heap H locs) (ls : Array Slot) (hl : lv_has ls 5 [(0, .ref (gA G i0)), (1, .int x1), (2, .int v2), (3, .int v3)]) (hF : f_X7_memoryOfGroup_44 i0 x1 σ (f_X7_memoryOfGroup_4 i0 x1 σ fl4) v2 v3 = some o), W p l e (headSpec wsX7_memoryOfGroup ({ frames := 2, cells := 0, slots := 0, locals := 43 })).room s m ([.ref (gA G i0), .int x1] : List Value).toArray below meth c H locs 0 0 (MQ below (qR G (some (.int o)) σ) ([.ref (gA G i0), .int x1] : List Value).toArray s 0 0 (AG G)) (F0 m 44 ls []) := by
            intro v2 v3 H locs hP hS ls hl hF
            rw [f_X7_memoryOfGroup_44_e] at hF
            refine lv_iinc (v := (v3 + (1 : Int32))) (lv' := [(3, .int (v3 + (1 : Int32))), (0, .ref (gA G i0)), (1, .int x1), (2, .int v2)]) hx hb dX7_memoryOfGroup_44 hl (k := 3) rfl rfl (by decide) rfl (fun ls hl => ?_)
            refine lv_goto (tgt := 4) hx hb dX7_memoryOfGroup_47 (by decide) ?_
            exact ih4 v2 (v3 + (1 : Int32)) _ _ hP hS ls (lv_sub hl [1, 2, 3, 0] rfl) hF
          refine lv_ifnullN (tgt := 44) hx hb dX7_memoryOfGroup_21 (by decide) ?_
          exact J44 v2 v3 _ _ hP hS ls (lv_sub hl [1, 2, 3, 4] rfl) hF
        · have hF := oc_s hF
          have ki4 : kd i4 = 1 := q_X7_toldAt hk0 h3
          refine W.eq (g2 := F0 m 17 ls [.ref (gA G i4)]) rfl ?_
          refine lv_astore (lv' := [(4, .ref (gA G i4)), (0, .ref (gA G i0)), (1, .int x1), (2, .int v2), (3, .int v3)]) hx hb dX7_memoryOfGroup_17 hl (by decide) rfl (fun ls hl => ?_)
          refine lv_aload hx hb dX7_memoryOfGroup_19 (lv_at hl 0 rfl) ?_
          have J44 : ∀ (v2 : Int32) (v3 : Int32) (H : Heap) (locs : List Loc) (hP : Pw G σ H) (hS : va_S (AG G) s.heap H locs) (ls : Array Slot) (hl : lv_has ls 5 [(0, .ref (gA G i0)), (1, .int x1), (2, .int v2), (3, .int v3)]) (hF : f_X7_memoryOfGroup_44 i0 x1 σ (f_X7_memoryOfGroup_4 i0 x1 σ fl4) v2 v3 = some o), W p l e (headSpec wsX7_memoryOfGroup ({ frames := 2, cells := 0, slots := 0, locals := 43 })).room s m ([.ref (gA G i0), .int x1] : List Value).toArray below meth c H locs 0 0 (MQ below (qR G (some (.int o)) σ) ([.ref (gA G i0), .int x1] : List Value).toArray s 0 0 (AG G)) (F0 m 44 ls []) := by
            intro v2 v3 H locs hP hS ls hl hF
            rw [f_X7_memoryOfGroup_44_e] at hF
            refine lv_iinc (v := (v3 + (1 : Int32))) (lv' := [(3, .int (v3 + (1 : Int32))), (0, .ref (gA G i0)), (1, .int x1), (2, .int v2)]) hx hb dX7_memoryOfGroup_44 hl (k := 3) rfl rfl (by decide) rfl (fun ls hl => ?_)
            refine lv_goto (tgt := 4) hx hb dX7_memoryOfGroup_47 (by decide) ?_
            exact ih4 v2 (v3 + (1 : Int32)) _ _ hP hS ls (lv_sub hl [1, 2, 3, 0] rfl) hF
          refine lv_ifnull hx hb dX7_memoryOfGroup_21 ?_
          refine lv_aload hx hb dX7_memoryOfGroup_24 (lv_at hl 0 rfl) ?_
          refine lv_aload_n hx hb dX7_memoryOfGroup_26 rfl (lv_at hl 1 rfl) ?_
          refine va_get (ci := 3) (C := RX7) (T := TX7) (N := 4) (v := .int (σ i0 3)) hx hb hts inX7 hown hK.1 hP i0 (at_3 hk0) rfl 3 (by decide) w2 (fun _ h9 => h9) rfl dX7_memoryOfGroup_27 ?_
          refine k_VNv (As := [.int (σ i0 3)]) (rest := []) Z hK hP hS (t_X1_keepers l G hG i4 (σ i0 3) ki4 σ) ⟨va_cnB 1 hts gX7_memoryOfGroup_X1_keepers_n67 rfl rfl rfl w4n w3 (by decide +kernel) ⟨Nat.le_of_ble_eq_true rfl, Nat.le_of_ble_eq_true rfl⟩, w5, w6⟩ (at_1 ki4) rfl rfl hl.1 rfl (Nat.le_of_ble_eq_true rfl) ⟨Nat.zero_le _, Nat.zero_le _⟩ dX7_memoryOfGroup_30 (fun H locs hP hS => ?_)
          refine lv_iload_n hx hb dX7_memoryOfGroup_33 rfl (lv_at hl 2 rfl) ?_
          refine lv_iand hx hb dX7_memoryOfGroup_34 ?_
          refine lv_if_eq (tgt := 44) hx hb dX7_memoryOfGroup_35 (by decide) (fun c5 => ?_) (fun c5 => ?_)
          · have hF := ite_t c5 hF
            exact J44 v2 v3 _ _ hP hS ls (lv_sub hl [1, 2, 3, 4] rfl) hF
          · have hF := ite_f c5 hF
            refine lv_iload_n hx hb dX7_memoryOfGroup_38 rfl (lv_at hl 3 rfl) ?_
            refine lv_iconst (v := 1) hx hb dX7_memoryOfGroup_39 (by decide) ?_
            refine lv_iload_n hx hb dX7_memoryOfGroup_40 rfl (lv_at hl 4 rfl) ?_
            refine lv_ishl hx hb dX7_memoryOfGroup_41 ?_
            refine lv_ior hx hb dX7_memoryOfGroup_42 ?_
            refine lv_istore_n (lv' := [(2, .int (v2 ||| ((1 : Int32) <<< (v3 &&& 31)))), (4, .ref (gA G i4)), (0, .ref (gA G i0)), (1, .int x1), (3, .int v3)]) hx hb dX7_memoryOfGroup_43 rfl hl (by decide) rfl (fun ls hl => ?_)
            exact J44 (v2 ||| ((1 : Int32) <<< (v3 &&& 31))) v3 _ _ hP hS ls (lv_sub hl [2, 3, 0, 4] rfl) hF
  refine lv_istore_n (lv' := [(3, .int (0 : Int32)), (2, .int (0 : Int32)), (0, .ref (gA G i0)), (1, .int x1)]) hx hb dX7_memoryOfGroup_3 rfl hl (by decide) rfl (fun ls hl => ?_)
  exact J4 fu (0 : Int32) (0 : Int32) _ _ hP hS ls (lv_sub hl [2, 3, 1, 0] rfl) hF
def f_X7_keptBySoMany_46 (i0 : Nat) (x1 : Int32) (σ : St) (rec4 : Int32 → Int32 → Option Int32) (v2 : Int32) (v3 : Int32) : Option Int32 := (rec4 v2 (v3 + (1 : Int32)))
theorem f_X7_keptBySoMany_46_e {i0 : Nat} {x1 : Int32} {σ : St} {rec4 : Int32 → Int32 → Option Int32} {v2 : Int32} {v3 : Int32} : f_X7_keptBySoMany_46 i0 x1 σ rec4 v2 v3 = (rec4 v2 (v3 + (1 : Int32))) := rfl
def f_X7_keptBySoMany_4 (i0 : Nat) (x1 : Int32) (σ : St) : Nat → (Int32 → Int32 → Option Int32)
  | 0 => fun _ _ => none
  | fl + 1 => fun v2 v3 => (if (σ i0 2) ≤ v3 then (some v2) else (ob (f_X7_toldAt i0 v3 σ) (fun q2 => oc q2 ((f_X7_keptBySoMany_46 i0 x1 σ (f_X7_keptBySoMany_4 i0 x1 σ fl) v2 v3)) (fun i4 => (if (f_J6_bitCount_0f7a4 (f_X1_keepers i4 (σ i0 3) σ)) = x1 then (f_X7_keptBySoMany_46 i0 x1 σ (f_X7_keptBySoMany_4 i0 x1 σ fl) (v2 ||| ((1 : Int32) <<< (v3 &&& 31))) v3) else f_X7_keptBySoMany_46 i0 x1 σ (f_X7_keptBySoMany_4 i0 x1 σ fl) v2 v3)))))
theorem f_X7_keptBySoMany_4_s {i0 : Nat} {x1 : Int32} {σ : St} (fl : Nat) {v2 : Int32} {v3 : Int32} : f_X7_keptBySoMany_4 i0 x1 σ (fl + 1) v2 v3 = (if (σ i0 2) ≤ v3 then (some v2) else (ob (f_X7_toldAt i0 v3 σ) (fun q2 => oc q2 ((f_X7_keptBySoMany_46 i0 x1 σ (f_X7_keptBySoMany_4 i0 x1 σ fl) v2 v3)) (fun i4 => (if (f_J6_bitCount_0f7a4 (f_X1_keepers i4 (σ i0 3) σ)) = x1 then (f_X7_keptBySoMany_46 i0 x1 σ (f_X7_keptBySoMany_4 i0 x1 σ fl) (v2 ||| ((1 : Int32) <<< (v3 &&& 31))) v3) else f_X7_keptBySoMany_46 i0 x1 σ (f_X7_keptBySoMany_4 i0 x1 σ fl) v2 v3))))) := rfl
def f_X7_keptBySoMany (i0 : Nat) (x1 : Int32) (σ : St) : Option Int32 := (f_X7_keptBySoMany_4 i0 x1 σ fu (0 : Int32) (0 : Int32))
set_option maxRecDepth 100000 in
set_option maxHeartbeats 4000000 in
theorem t_X7_keptBySoMany (l : Launch) (G : GT) (hG : Dw G) (i0 : Nat) (x1 : Int32) (hk0 : kd i0 = 3) (σ : St) (o : Int32) (hF : f_X7_keptBySoMany i0 x1 σ = some o) : Ct l G yX7_keptBySoMany wsX7_keptBySoMany 2 43 [.ref (gA G i0), .int x1] σ (some (.int o)) σ := by
  refine Met.ofW (cc := cX7_keptBySoMany) (maxL := 5) (ret := (some .int)) (by decide) rfl ?_
  intro p e s m args below meth c s₁ B hml hv
  obtain ⟨rfl, hP, hK⟩ := hv
  have hx := B.exec
  have hb := B.bytes
  have hr := B.returns
  have hts := atoms_spec (ws := wsX7_keptBySoMany) B.pre
  have hown : s.vm.findClass RX7 = some m.cls := findClass_of_methodNamed B.named
  have hlocks := B.notSynchronized
  have Z : CallFix p m c cX7_keptBySoMany 5 s _ wsX7_keptBySoMany RX7 := ⟨hx, hb, hml, hown, hts⟩
  have hS : va_S (AG G) s.heap s.heap [] := va_S.rf
  have inX7 : ∀ w ∈ u_ws RX7 TX7 4, w ∈ wsX7_keptBySoMany := by decide +kernel
  have w1 := hts (.fieldLink RX7 22 "AlmanacOfTheYearGone$Year" "deedCount" "I") (by decide +kernel)
  have w2 := hts (.fieldLink RX7 26 "AlmanacOfTheYearGone$Year" "day" "I") (by decide +kernel)
  have w3 := hts (.initialized RX1) (by decide +kernel)
  have w4n : va_Nw (.methodLinkNest "AlmanacOfTheYearGone$Year" 67 ⟨"AlmanacOfTheYearGone$Deed", "keepers", "(I)I"⟩ "AlmanacOfTheYearGone") s := hK.2 _ (List.mem_of_getElem? (i := 63) rfl)
  have w4 := va_Nw.use (A := [.ref (gA G i0), .int x1].toArray) rfl w4n
  have w5 := hts (.instanceMethod yX1_keepers) (by decide +kernel)
  have w6 := hts (.selects RX1 yX1_keepers yX1_keepers) (by decide +kernel)
  have hl := lv_entry ([.ref (gA G i0), .int x1]) (n := 5) (Nat.le_of_ble_eq_true rfl)
  rw [lg_entry_eq]
  generalize (lg_sl ([.ref (gA G i0), .int x1]) ++ List.replicate (5 - (lg_sl ([.ref (gA G i0), .int x1])).length) Slot.unset).toArray = ls at hl ⊢
  have hl : lv_has ls 5 [(0, .ref (gA G i0)), (1, .int x1)] := hl
  unfold f_X7_keptBySoMany at hF
  refine lv_iconst (v := 0) hx hb dX7_keptBySoMany_0 (by decide) ?_
  refine lv_istore_n (lv' := [(2, .int (0 : Int32)), (0, .ref (gA G i0)), (1, .int x1)]) hx hb dX7_keptBySoMany_1 rfl hl (by decide) rfl (fun ls hl => ?_)
  refine lv_iconst (v := 0) hx hb dX7_keptBySoMany_2 (by decide) ?_
  have J4 : ∀ (fl : Nat) (v2 : Int32) (v3 : Int32) (H : Heap) (locs : List Loc) (hP : Pw G σ H) (hS : va_S (AG G) s.heap H locs) (ls : Array Slot) (hl : lv_has ls 5 [(0, .ref (gA G i0)), (1, .int x1), (2, .int v2), (3, .int v3)]) (hF : f_X7_keptBySoMany_4 i0 x1 σ fl v2 v3 = some o), W p l e (headSpec wsX7_keptBySoMany ({ frames := 2, cells := 0, slots := 0, locals := 43 })).room s m ([.ref (gA G i0), .int x1] : List Value).toArray below meth c H locs 0 0 (MQ below (qR G (some (.int o)) σ) ([.ref (gA G i0), .int x1] : List Value).toArray s 0 0 (AG G)) (F0 m 4 ls []) := by
    intro fl4
    induction fl4 with
    | zero => intro v2 v3 H locs hP hS ls hl hF; cases hF
    | succ fl4 ih4 =>
      intro v2 v3 H locs hP hS ls hl hF
      rw [f_X7_keptBySoMany_4_s] at hF
      refine lv_iload_n hx hb dX7_keptBySoMany_4 rfl (lv_at hl 3 rfl) ?_
      refine lv_aload_n hx hb dX7_keptBySoMany_5 rfl (lv_at hl 0 rfl) ?_
      refine va_get (ci := 3) (C := RX7) (T := TX7) (N := 4) (v := .int (σ i0 2)) hx hb hts inX7 hown hK.1 hP i0 (at_3 hk0) rfl 2 (by decide) w1 (fun _ h9 => h9) rfl dX7_keptBySoMany_6 ?_
      refine lv_icmp_ge (tgt := 52) hx hb dX7_keptBySoMany_9 (by decide) (fun c1 => ?_) (fun c1 => ?_)
      · have hF := ite_t c1 hF
        refine lv_iload_n hx hb dX7_keptBySoMany_52 rfl (lv_at hl 2 rfl) ?_
        exact e_iP hx hb hr hP hS hlocks dX7_keptBySoMany_53 hF
      · have hF := ite_f c1 hF
        refine lv_aload_n hx hb dX7_keptBySoMany_12 rfl (lv_at hl 0 rfl) ?_
        refine lv_iload_n hx hb dX7_keptBySoMany_13 rfl (lv_at hl 3 rfl) ?_
        obtain ⟨q2, h3, hF⟩ := ob_some hF
        refine k_Vv (As := [.int v3]) (rest := []) Z hK hP hS (t_X7_toldAt l G hG i0 v3 hk0 σ _ h3) (cwV 1 hts gX7_keptBySoMany_X7_toldAt rfl rfl rfl (by decide +kernel) ⟨Nat.le_of_ble_eq_true rfl, Nat.le_of_ble_eq_true rfl⟩) (at_3 hk0) rfl rfl hl.1 rfl (Nat.le_of_ble_eq_true rfl) ⟨Nat.zero_le _, Nat.zero_le _⟩ dX7_keptBySoMany_14 (fun H locs hP hS => ?_)
        rcases q2 with _ | i4
        · have hF := oc_n hF
          refine W.eq (g2 := F0 m 17 ls [.null]) rfl ?_
          refine lv_astoreN (lv' := [(4, .null), (0, .ref (gA G i0)), (1, .int x1), (2, .int v2), (3, .int v3)]) hx hb dX7_keptBySoMany_17 hl (by decide) rfl (fun ls hl => ?_)
          refine lv_aloadN hx hb dX7_keptBySoMany_19 (lv_at hl 0 rfl) ?_
          have J46 : ∀ (v2 : Int32) (v3 : Int32) (H : Heap) (locs : List Loc) (hP : Pw G σ H) (hS : va_S (AG G) s.heap H locs) (ls : Array Slot) (hl : lv_has ls 5 [(0, .ref (gA G i0)), (1, .int x1), (2, .int v2), (3, .int v3)]) (hF : f_X7_keptBySoMany_46 i0 x1 σ (f_X7_keptBySoMany_4 i0 x1 σ fl4) v2 v3 = some o), W p l e (headSpec wsX7_keptBySoMany ({ frames := 2, cells := 0, slots := 0, locals := 43 })).room s m ([.ref (gA G i0), .int x1] : List Value).toArray below meth c H locs 0 0 (MQ below (qR G (some (.int o)) σ) ([.ref (gA G i0), .int x1] : List Value).toArray s 0 0 (AG G)) (F0 m 46 ls []) := by
            intro v2 v3 H locs hP hS ls hl hF
            rw [f_X7_keptBySoMany_46_e] at hF
            refine lv_iinc (v := (v3 + (1 : Int32))) (lv' := [(3, .int (v3 + (1 : Int32))), (0, .ref (gA G i0)), (1, .int x1), (2, .int v2)]) hx hb dX7_keptBySoMany_46 hl (k := 3) rfl rfl (by decide) rfl (fun ls hl => ?_)
            refine lv_goto (tgt := 4) hx hb dX7_keptBySoMany_49 (by decide) ?_
            exact ih4 v2 (v3 + (1 : Int32)) _ _ hP hS ls (lv_sub hl [1, 2, 3, 0] rfl) hF
          refine lv_ifnullN (tgt := 46) hx hb dX7_keptBySoMany_21 (by decide) ?_
          exact J46 v2 v3 _ _ hP hS ls (lv_sub hl [1, 2, 3, 4] rfl) hF
        · have hF := oc_s hF
          have ki4 : kd i4 = 1 := q_X7_toldAt hk0 h3
          refine W.eq (g2 := F0 m 17 ls [.ref (gA G i4)]) rfl ?_
          refine lv_astore (lv' := [(4, .ref (gA G i4)), (0, .ref (gA G i0)), (1, .int x1), (2, .int v2), (3, .int v3)]) hx hb dX7_keptBySoMany_17 hl (by decide) rfl (fun ls hl => ?_)
          refine lv_aload hx hb dX7_keptBySoMany_19 (lv_at hl 0 rfl) ?_
          have J46 : ∀ (v2 : Int32) (v3 : Int32) (H : Heap) (locs : List Loc) (hP : Pw G σ H) (hS : va_S (AG G) s.heap H locs) (ls : Array Slot) (hl : lv_has ls 5 [(0, .ref (gA G i0)), (1, .int x1), (2, .int v2), (3, .int v3)]) (hF : f_X7_keptBySoMany_46 i0 x1 σ (f_X7_keptBySoMany_4 i0 x1 σ fl4) v2 v3 = some o), W p l e (headSpec wsX7_keptBySoMany ({ frames := 2, cells := 0, slots := 0, locals := 43 })).room s m ([.ref (gA G i0), .int x1] : List Value).toArray below meth c H locs 0 0 (MQ below (qR G (some (.int o)) σ) ([.ref (gA G i0), .int x1] : List Value).toArray s 0 0 (AG G)) (F0 m 46 ls []) := by
            intro v2 v3 H locs hP hS ls hl hF
            rw [f_X7_keptBySoMany_46_e] at hF
            refine lv_iinc (v := (v3 + (1 : Int32))) (lv' := [(3, .int (v3 + (1 : Int32))), (0, .ref (gA G i0)), (1, .int x1), (2, .int v2)]) hx hb dX7_keptBySoMany_46 hl (k := 3) rfl rfl (by decide) rfl (fun ls hl => ?_)
            refine lv_goto (tgt := 4) hx hb dX7_keptBySoMany_49 (by decide) ?_
            exact ih4 v2 (v3 + (1 : Int32)) _ _ hP hS ls (lv_sub hl [1, 2, 3, 0] rfl) hF
          refine lv_ifnull hx hb dX7_keptBySoMany_21 ?_
          refine lv_aload hx hb dX7_keptBySoMany_24 (lv_at hl 0 rfl) ?_
          refine lv_aload_n hx hb dX7_keptBySoMany_26 rfl (lv_at hl 1 rfl) ?_
          refine va_get (ci := 3) (C := RX7) (T := TX7) (N := 4) (v := .int (σ i0 3)) hx hb hts inX7 hown hK.1 hP i0 (at_3 hk0) rfl 3 (by decide) w2 (fun _ h9 => h9) rfl dX7_keptBySoMany_27 ?_
          refine k_VNv (As := [.int (σ i0 3)]) (rest := []) Z hK hP hS (t_X1_keepers l G hG i4 (σ i0 3) ki4 σ) ⟨va_cnB 1 hts gX7_keptBySoMany_X1_keepers_n67 rfl rfl rfl w4n w3 (by decide +kernel) ⟨Nat.le_of_ble_eq_true rfl, Nat.le_of_ble_eq_true rfl⟩, w5, w6⟩ (at_1 ki4) rfl rfl hl.1 rfl (Nat.le_of_ble_eq_true rfl) ⟨Nat.zero_le _, Nat.zero_le _⟩ dX7_keptBySoMany_30 (fun H locs hP hS => ?_)
          refine k_Sv (As := [.int (f_X1_keepers i4 (σ i0 3) σ)]) (rest := []) Z hK hP hS (t_J6_bitCount_0f7a4 l G hG (f_X1_keepers i4 (σ i0 3) σ) σ) (va_cwS 1 hts gX7_keptBySoMany_J6_bitCount_0f7a4 rfl rfl rfl (by decide +kernel) ⟨Nat.le_of_ble_eq_true rfl, Nat.le_of_ble_eq_true rfl⟩) rfl hl.1 rfl (Nat.le_of_ble_eq_true rfl) ⟨Nat.zero_le _, Nat.zero_le _⟩ dX7_keptBySoMany_33 (fun H locs hP hS => ?_)
          refine lv_iload_n hx hb dX7_keptBySoMany_36 rfl (lv_at hl 2 rfl) ?_
          refine lv_icmp_ne (tgt := 46) hx hb dX7_keptBySoMany_37 (by decide) (fun c5 => ?_) (fun c5 => ?_)
          · have hF := ite_f c5 hF
            exact J46 v2 v3 _ _ hP hS ls (lv_sub hl [1, 2, 3, 4] rfl) hF
          · have hF := ite_t c5 hF
            refine lv_iload_n hx hb dX7_keptBySoMany_40 rfl (lv_at hl 3 rfl) ?_
            refine lv_iconst (v := 1) hx hb dX7_keptBySoMany_41 (by decide) ?_
            refine lv_iload_n hx hb dX7_keptBySoMany_42 rfl (lv_at hl 4 rfl) ?_
            refine lv_ishl hx hb dX7_keptBySoMany_43 ?_
            refine lv_ior hx hb dX7_keptBySoMany_44 ?_
            refine lv_istore_n (lv' := [(2, .int (v2 ||| ((1 : Int32) <<< (v3 &&& 31)))), (4, .ref (gA G i4)), (0, .ref (gA G i0)), (1, .int x1), (3, .int v3)]) hx hb dX7_keptBySoMany_45 rfl hl (by decide) rfl (fun ls hl => ?_)
            exact J46 (v2 ||| ((1 : Int32) <<< (v3 &&& 31))) v3 _ _ hP hS ls (lv_sub hl [2, 3, 0, 4] rfl) hF
  refine lv_istore_n (lv' := [(3, .int (0 : Int32)), (2, .int (0 : Int32)), (0, .ref (gA G i0)), (1, .int x1)]) hx hb dX7_keptBySoMany_3 rfl hl (by decide) rfl (fun ls hl => ?_)
  exact J4 fu (0 : Int32) (0 : Int32) _ _ hP hS ls (lv_sub hl [2, 3, 1, 0] rfl) hF
def f_X7_mattersBetween_47 (i0 : Nat) (x1 : Int32) (x2 : Int32) (σ : St) (rec5 : Int32 → Int32 → Option Int32) (v4 : Int32) (z0 : Int32) (z1 : Int32) : Option Int32 := (rec5 (z0 + z1) (v4 + (1 : Int32)))
theorem f_X7_mattersBetween_47_e {i0 : Nat} {x1 : Int32} {x2 : Int32} {σ : St} {rec5 : Int32 → Int32 → Option Int32} {v4 : Int32} {z0 : Int32} {z1 : Int32} : f_X7_mattersBetween_47 i0 x1 x2 σ rec5 v4 z0 z1 = (rec5 (z0 + z1) (v4 + (1 : Int32))) := rfl
def f_X7_mattersBetween_46 (i0 : Nat) (x1 : Int32) (x2 : Int32) (σ : St) (rec5 : Int32 → Int32 → Option Int32) (v4 : Int32) (z0 : Int32) : Option Int32 := (f_X7_mattersBetween_47 i0 x1 x2 σ rec5 v4 z0 (0 : Int32))
theorem f_X7_mattersBetween_46_e {i0 : Nat} {x1 : Int32} {x2 : Int32} {σ : St} {rec5 : Int32 → Int32 → Option Int32} {v4 : Int32} {z0 : Int32} : f_X7_mattersBetween_46 i0 x1 x2 σ rec5 v4 z0 = (f_X7_mattersBetween_47 i0 x1 x2 σ rec5 v4 z0 (0 : Int32)) := rfl
def f_X7_mattersBetween_5 (i0 : Nat) (x1 : Int32) (x2 : Int32) (σ : St) : Nat → (Int32 → Int32 → Option Int32)
  | 0 => fun _ _ => none
  | fl + 1 => fun v3 v4 => (if (σ i0 2) ≤ v4 then (some v3) else (ob (f_X7_toldAt i0 v4 σ) (fun q2 => oc q2 ((f_X7_mattersBetween_46 i0 x1 x2 σ (f_X7_mattersBetween_5 i0 x1 x2 σ fl) v4 v3)) (fun i4 => (if (f_X1_isMatterBetween i4 x1 x2 (σ i0 3) σ) = true then (f_X7_mattersBetween_47 i0 x1 x2 σ (f_X7_mattersBetween_5 i0 x1 x2 σ fl) v4 v3 (1 : Int32)) else f_X7_mattersBetween_46 i0 x1 x2 σ (f_X7_mattersBetween_5 i0 x1 x2 σ fl) v4 v3)))))
theorem f_X7_mattersBetween_5_s {i0 : Nat} {x1 : Int32} {x2 : Int32} {σ : St} (fl : Nat) {v3 : Int32} {v4 : Int32} : f_X7_mattersBetween_5 i0 x1 x2 σ (fl + 1) v3 v4 = (if (σ i0 2) ≤ v4 then (some v3) else (ob (f_X7_toldAt i0 v4 σ) (fun q2 => oc q2 ((f_X7_mattersBetween_46 i0 x1 x2 σ (f_X7_mattersBetween_5 i0 x1 x2 σ fl) v4 v3)) (fun i4 => (if (f_X1_isMatterBetween i4 x1 x2 (σ i0 3) σ) = true then (f_X7_mattersBetween_47 i0 x1 x2 σ (f_X7_mattersBetween_5 i0 x1 x2 σ fl) v4 v3 (1 : Int32)) else f_X7_mattersBetween_46 i0 x1 x2 σ (f_X7_mattersBetween_5 i0 x1 x2 σ fl) v4 v3))))) := rfl
def f_X7_mattersBetween (i0 : Nat) (x1 : Int32) (x2 : Int32) (σ : St) : Option Int32 := (f_X7_mattersBetween_5 i0 x1 x2 σ fu (0 : Int32) (0 : Int32))
set_option maxRecDepth 100000 in
set_option maxHeartbeats 4000000 in
theorem t_X7_mattersBetween (l : Launch) (G : GT) (hG : Dw G) (i0 : Nat) (x1 : Int32) (x2 : Int32) (hk0 : kd i0 = 3) (σ : St) (o : Int32) (hF : f_X7_mattersBetween i0 x1 x2 σ = some o) : Ct l G yX7_mattersBetween wsX7_mattersBetween 3 66 [.ref (gA G i0), .int x1, .int x2] σ (some (.int o)) σ := by
  refine Met.ofW (cc := cX7_mattersBetween) (maxL := 6) (ret := (some .int)) (by decide) rfl ?_
  intro p e s m args below meth c s₁ B hml hv
  obtain ⟨rfl, hP, hK⟩ := hv
  have hx := B.exec
  have hb := B.bytes
  have hr := B.returns
  have hts := atoms_spec (ws := wsX7_mattersBetween) B.pre
  have hown : s.vm.findClass RX7 = some m.cls := findClass_of_methodNamed B.named
  have hlocks := B.notSynchronized
  have Z : CallFix p m c cX7_mattersBetween 6 s _ wsX7_mattersBetween RX7 := ⟨hx, hb, hml, hown, hts⟩
  have hS : va_S (AG G) s.heap s.heap [] := va_S.rf
  have inX7 : ∀ w ∈ u_ws RX7 TX7 4, w ∈ wsX7_mattersBetween := by decide +kernel
  have w1 := hts (.fieldLink RX7 22 "AlmanacOfTheYearGone$Year" "deedCount" "I") (by decide +kernel)
  have w2 := hts (.fieldLink RX7 26 "AlmanacOfTheYearGone$Year" "day" "I") (by decide +kernel)
  have w3 := hts (.initialized RX1) (by decide +kernel)
  have w4n : va_Nw (.methodLinkNest "AlmanacOfTheYearGone$Year" 76 ⟨"AlmanacOfTheYearGone$Deed", "isMatterBetween", "(III)Z"⟩ "AlmanacOfTheYearGone") s := hK.2 _ (List.mem_of_getElem? (i := 108) rfl)
  have w4 := va_Nw.use (A := [.ref (gA G i0), .int x1, .int x2].toArray) rfl w4n
  have w5 := hts (.instanceMethod yX1_isMatterBetween) (by decide +kernel)
  have w6 := hts (.selects RX1 yX1_isMatterBetween yX1_isMatterBetween) (by decide +kernel)
  have hl := lv_entry ([.ref (gA G i0), .int x1, .int x2]) (n := 6) (Nat.le_of_ble_eq_true rfl)
  rw [lg_entry_eq]
  generalize (lg_sl ([.ref (gA G i0), .int x1, .int x2]) ++ List.replicate (6 - (lg_sl ([.ref (gA G i0), .int x1, .int x2])).length) Slot.unset).toArray = ls at hl ⊢
  have hl : lv_has ls 6 [(0, .ref (gA G i0)), (1, .int x1), (2, .int x2)] := hl
  unfold f_X7_mattersBetween at hF
  refine lv_iconst (v := 0) hx hb dX7_mattersBetween_0 (by decide) ?_
  refine lv_istore_n (lv' := [(3, .int (0 : Int32)), (0, .ref (gA G i0)), (1, .int x1), (2, .int x2)]) hx hb dX7_mattersBetween_1 rfl hl (by decide) rfl (fun ls hl => ?_)
  refine lv_iconst (v := 0) hx hb dX7_mattersBetween_2 (by decide) ?_
  have J5 : ∀ (fl : Nat) (v3 : Int32) (v4 : Int32) (H : Heap) (locs : List Loc) (hP : Pw G σ H) (hS : va_S (AG G) s.heap H locs) (ls : Array Slot) (hl : lv_has ls 6 [(0, .ref (gA G i0)), (1, .int x1), (2, .int x2), (3, .int v3), (4, .int v4)]) (hF : f_X7_mattersBetween_5 i0 x1 x2 σ fl v3 v4 = some o), W p l e (headSpec wsX7_mattersBetween ({ frames := 3, cells := 0, slots := 0, locals := 66 })).room s m ([.ref (gA G i0), .int x1, .int x2] : List Value).toArray below meth c H locs 0 0 (MQ below (qR G (some (.int o)) σ) ([.ref (gA G i0), .int x1, .int x2] : List Value).toArray s 0 0 (AG G)) (F0 m 5 ls []) := by
    intro fl5
    induction fl5 with
    | zero => intro v3 v4 H locs hP hS ls hl hF; cases hF
    | succ fl5 ih5 =>
      intro v3 v4 H locs hP hS ls hl hF
      rw [f_X7_mattersBetween_5_s] at hF
      refine lv_iload hx hb dX7_mattersBetween_5 (lv_at hl 4 rfl) ?_
      refine lv_aload_n hx hb dX7_mattersBetween_7 rfl (lv_at hl 0 rfl) ?_
      refine va_get (ci := 3) (C := RX7) (T := TX7) (N := 4) (v := .int (σ i0 2)) hx hb hts inX7 hown hK.1 hP i0 (at_3 hk0) rfl 2 (by decide) w1 (fun _ h9 => h9) rfl dX7_mattersBetween_8 ?_
      refine lv_icmp_ge (tgt := 55) hx hb dX7_mattersBetween_11 (by decide) (fun c1 => ?_) (fun c1 => ?_)
      · have hF := ite_t c1 hF
        refine lv_iload_n hx hb dX7_mattersBetween_55 rfl (lv_at hl 3 rfl) ?_
        exact e_iP hx hb hr hP hS hlocks dX7_mattersBetween_56 hF
      · have hF := ite_f c1 hF
        refine lv_aload_n hx hb dX7_mattersBetween_14 rfl (lv_at hl 0 rfl) ?_
        refine lv_iload hx hb dX7_mattersBetween_15 (lv_at hl 4 rfl) ?_
        obtain ⟨q2, h3, hF⟩ := ob_some hF
        refine k_Vv (As := [.int v4]) (rest := []) Z hK hP hS (t_X7_toldAt l G hG i0 v4 hk0 σ _ h3) (cwV 1 hts gX7_mattersBetween_X7_toldAt rfl rfl rfl (by decide +kernel) ⟨Nat.le_of_ble_eq_true rfl, Nat.le_of_ble_eq_true rfl⟩) (at_3 hk0) rfl rfl hl.1 rfl (Nat.le_of_ble_eq_true rfl) ⟨Nat.zero_le _, Nat.zero_le _⟩ dX7_mattersBetween_17 (fun H locs hP hS => ?_)
        rcases q2 with _ | i4
        · have hF := oc_n hF
          refine W.eq (g2 := F0 m 20 ls [.null]) rfl ?_
          refine lv_astoreN (lv' := [(5, .null), (0, .ref (gA G i0)), (1, .int x1), (2, .int x2), (3, .int v3), (4, .int v4)]) hx hb dX7_mattersBetween_20 hl (by decide) rfl (fun ls hl => ?_)
          refine lv_iload_n hx hb dX7_mattersBetween_22 rfl (lv_at hl 4 rfl) ?_
          refine lv_aloadN hx hb dX7_mattersBetween_23 (lv_at hl 0 rfl) ?_
          have J47 : ∀ (v4 : Int32) (z0 : Int32) (z1 : Int32) (H : Heap) (locs : List Loc) (hP : Pw G σ H) (hS : va_S (AG G) s.heap H locs) (ls : Array Slot) (hl : lv_has ls 6 [(0, .ref (gA G i0)), (1, .int x1), (2, .int x2), (4, .int v4)]) (hF : f_X7_mattersBetween_47 i0 x1 x2 σ (f_X7_mattersBetween_5 i0 x1 x2 σ fl5) v4 z0 z1 = some o), W p l e (headSpec wsX7_mattersBetween ({ frames := 3, cells := 0, slots := 0, locals := 66 })).room s m ([.ref (gA G i0), .int x1, .int x2] : List Value).toArray below meth c H locs 0 0 (MQ below (qR G (some (.int o)) σ) ([.ref (gA G i0), .int x1, .int x2] : List Value).toArray s 0 0 (AG G)) (F0 m 47 ls [.int z1, .int z0]) := by
            intro v4 z0 z1 H locs hP hS ls hl hF
            rw [f_X7_mattersBetween_47_e] at hF
            refine lv_iadd hx hb dX7_mattersBetween_47 ?_
            refine lv_istore_n (lv' := [(3, .int (z0 + z1)), (0, .ref (gA G i0)), (1, .int x1), (2, .int x2), (4, .int v4)]) hx hb dX7_mattersBetween_48 rfl hl (by decide) rfl (fun ls hl => ?_)
            refine lv_iinc (v := (v4 + (1 : Int32))) (lv' := [(4, .int (v4 + (1 : Int32))), (3, .int (z0 + z1)), (0, .ref (gA G i0)), (1, .int x1), (2, .int x2)]) hx hb dX7_mattersBetween_49 hl (k := 4) rfl rfl (by decide) rfl (fun ls hl => ?_)
            refine lv_goto (tgt := 5) hx hb dX7_mattersBetween_52 (by decide) ?_
            exact ih5 (z0 + z1) (v4 + (1 : Int32)) _ _ hP hS ls (lv_sub hl [2, 3, 4, 1, 0] rfl) hF
          have J46 : ∀ (v4 : Int32) (z0 : Int32) (H : Heap) (locs : List Loc) (hP : Pw G σ H) (hS : va_S (AG G) s.heap H locs) (ls : Array Slot) (hl : lv_has ls 6 [(0, .ref (gA G i0)), (1, .int x1), (2, .int x2), (4, .int v4)]) (hF : f_X7_mattersBetween_46 i0 x1 x2 σ (f_X7_mattersBetween_5 i0 x1 x2 σ fl5) v4 z0 = some o), W p l e (headSpec wsX7_mattersBetween ({ frames := 3, cells := 0, slots := 0, locals := 66 })).room s m ([.ref (gA G i0), .int x1, .int x2] : List Value).toArray below meth c H locs 0 0 (MQ below (qR G (some (.int o)) σ) ([.ref (gA G i0), .int x1, .int x2] : List Value).toArray s 0 0 (AG G)) (F0 m 46 ls [.int z0]) := by
            intro v4 z0 H locs hP hS ls hl hF
            rw [f_X7_mattersBetween_46_e] at hF
            refine lv_iconst (v := 0) hx hb dX7_mattersBetween_46 (by decide) ?_
            exact J47 v4 z0 (0 : Int32) _ _ hP hS ls (lv_sub hl [0, 1, 2, 3] rfl) hF
          refine lv_ifnullN (tgt := 46) hx hb dX7_mattersBetween_25 (by decide) ?_
          exact J46 v4 v3 _ _ hP hS ls (lv_sub hl [1, 2, 3, 5] rfl) hF
        · have hF := oc_s hF
          have ki4 : kd i4 = 1 := q_X7_toldAt hk0 h3
          refine W.eq (g2 := F0 m 20 ls [.ref (gA G i4)]) rfl ?_
          refine lv_astore (lv' := [(5, .ref (gA G i4)), (0, .ref (gA G i0)), (1, .int x1), (2, .int x2), (3, .int v3), (4, .int v4)]) hx hb dX7_mattersBetween_20 hl (by decide) rfl (fun ls hl => ?_)
          refine lv_iload_n hx hb dX7_mattersBetween_22 rfl (lv_at hl 4 rfl) ?_
          refine lv_aload hx hb dX7_mattersBetween_23 (lv_at hl 0 rfl) ?_
          have J47 : ∀ (v4 : Int32) (z0 : Int32) (z1 : Int32) (H : Heap) (locs : List Loc) (hP : Pw G σ H) (hS : va_S (AG G) s.heap H locs) (ls : Array Slot) (hl : lv_has ls 6 [(0, .ref (gA G i0)), (1, .int x1), (2, .int x2), (4, .int v4)]) (hF : f_X7_mattersBetween_47 i0 x1 x2 σ (f_X7_mattersBetween_5 i0 x1 x2 σ fl5) v4 z0 z1 = some o), W p l e (headSpec wsX7_mattersBetween ({ frames := 3, cells := 0, slots := 0, locals := 66 })).room s m ([.ref (gA G i0), .int x1, .int x2] : List Value).toArray below meth c H locs 0 0 (MQ below (qR G (some (.int o)) σ) ([.ref (gA G i0), .int x1, .int x2] : List Value).toArray s 0 0 (AG G)) (F0 m 47 ls [.int z1, .int z0]) := by
            intro v4 z0 z1 H locs hP hS ls hl hF
            rw [f_X7_mattersBetween_47_e] at hF
            refine lv_iadd hx hb dX7_mattersBetween_47 ?_
            refine lv_istore_n (lv' := [(3, .int (z0 + z1)), (0, .ref (gA G i0)), (1, .int x1), (2, .int x2), (4, .int v4)]) hx hb dX7_mattersBetween_48 rfl hl (by decide) rfl (fun ls hl => ?_)
            refine lv_iinc (v := (v4 + (1 : Int32))) (lv' := [(4, .int (v4 + (1 : Int32))), (3, .int (z0 + z1)), (0, .ref (gA G i0)), (1, .int x1), (2, .int x2)]) hx hb dX7_mattersBetween_49 hl (k := 4) rfl rfl (by decide) rfl (fun ls hl => ?_)
            refine lv_goto (tgt := 5) hx hb dX7_mattersBetween_52 (by decide) ?_
            exact ih5 (z0 + z1) (v4 + (1 : Int32)) _ _ hP hS ls (lv_sub hl [2, 3, 4, 1, 0] rfl) hF
          have J46 : ∀ (v4 : Int32) (z0 : Int32) (H : Heap) (locs : List Loc) (hP : Pw G σ H) (hS : va_S (AG G) s.heap H locs) (ls : Array Slot) (hl : lv_has ls 6 [(0, .ref (gA G i0)), (1, .int x1), (2, .int x2), (4, .int v4)]) (hF : f_X7_mattersBetween_46 i0 x1 x2 σ (f_X7_mattersBetween_5 i0 x1 x2 σ fl5) v4 z0 = some o), W p l e (headSpec wsX7_mattersBetween ({ frames := 3, cells := 0, slots := 0, locals := 66 })).room s m ([.ref (gA G i0), .int x1, .int x2] : List Value).toArray below meth c H locs 0 0 (MQ below (qR G (some (.int o)) σ) ([.ref (gA G i0), .int x1, .int x2] : List Value).toArray s 0 0 (AG G)) (F0 m 46 ls [.int z0]) := by
            intro v4 z0 H locs hP hS ls hl hF
            rw [f_X7_mattersBetween_46_e] at hF
            refine lv_iconst (v := 0) hx hb dX7_mattersBetween_46 (by decide) ?_
            exact J47 v4 z0 (0 : Int32) _ _ hP hS ls (lv_sub hl [0, 1, 2, 3] rfl) hF
          refine lv_ifnull hx hb dX7_mattersBetween_25 ?_
          refine lv_aload hx hb dX7_mattersBetween_28 (lv_at hl 0 rfl) ?_
          refine lv_iload_n hx hb dX7_mattersBetween_30 rfl (lv_at hl 2 rfl) ?_
          refine lv_iload_n hx hb dX7_mattersBetween_31 rfl (lv_at hl 3 rfl) ?_
          refine lv_aload_n hx hb dX7_mattersBetween_32 rfl (lv_at hl 1 rfl) ?_
          refine va_get (ci := 3) (C := RX7) (T := TX7) (N := 4) (v := .int (σ i0 3)) hx hb hts inX7 hown hK.1 hP i0 (at_3 hk0) rfl 3 (by decide) w2 (fun _ h9 => h9) rfl dX7_mattersBetween_33 ?_
          refine k_VNv (As := [.int x1, .int x2, .int (σ i0 3)]) (rest := [.int v3]) Z hK hP hS (t_X1_isMatterBetween l G hG i4 x1 x2 (σ i0 3) ki4 σ) ⟨va_cnB 3 hts gX7_mattersBetween_X1_isMatterBetween_n76 rfl rfl rfl w4n w3 (by decide +kernel) ⟨Nat.le_of_ble_eq_true rfl, Nat.le_of_ble_eq_true rfl⟩, w5, w6⟩ (at_1 ki4) rfl rfl hl.1 rfl (Nat.le_of_ble_eq_true rfl) ⟨Nat.zero_le _, Nat.zero_le _⟩ dX7_mattersBetween_36 (fun H locs hP hS => ?_)
          refine lv_if_eq (tgt := 46) hx hb dX7_mattersBetween_39 (by decide) (fun c5 => ?_) (fun c5 => ?_)
          · have hF := ite_f (b2i_e0 c5) hF
            exact J46 v4 v3 _ _ hP hS ls (lv_sub hl [1, 2, 3, 5] rfl) hF
          · have hF := ite_t (b2i_n0 c5) hF
            refine lv_iconst (v := 1) hx hb dX7_mattersBetween_42 (by decide) ?_
            refine lv_goto (tgt := 47) hx hb dX7_mattersBetween_43 (by decide) ?_
            exact J47 v4 v3 (1 : Int32) _ _ hP hS ls (lv_sub hl [1, 2, 3, 5] rfl) hF
  refine lv_istore (lv' := [(4, .int (0 : Int32)), (3, .int (0 : Int32)), (0, .ref (gA G i0)), (1, .int x1), (2, .int x2)]) hx hb dX7_mattersBetween_3 hl (by decide) rfl (fun ls hl => ?_)
  exact J5 fu (0 : Int32) (0 : Int32) _ _ hP hS ls (lv_sub hl [2, 3, 4, 1, 0] rfl) hF
def f_X8_isBelow (x0 : Int32) (x1 : Int32) : Bool := (if x0 < 0 then false else (if x1 ≤ x0 then false else true))
set_option maxRecDepth 100000 in
set_option maxHeartbeats 4000000 in
theorem t_X8_isBelow (l : Launch) (G : GT) (hG : Dw G) (x0 : Int32) (x1 : Int32) (σ : St) : Ct l G yX8_isBelow wsX8_isBelow 0 0 [.int x0, .int x1] σ (some (.int (b2i (f_X8_isBelow x0 x1)))) σ := by
  obtain ⟨o, hF⟩ : ∃ o, f_X8_isBelow x0 x1 = o := ⟨_, rfl⟩
  rw [hF]
  refine Met.ofW (cc := cX8_isBelow) (maxL := 2) (ret := (some .boolean)) (by decide) rfl ?_
  intro p e s m args below meth c s₁ B hml hv
  obtain ⟨rfl, hP, hK⟩ := hv
  have hx := B.exec
  have hb := B.bytes
  have hr := B.returns
  have hts := atoms_spec (ws := wsX8_isBelow) B.pre
  have hown : s.vm.findClass RX8 = some m.cls := findClass_of_methodNamed B.named
  have hlocks := B.notSynchronized
  have Z : CallFix p m c cX8_isBelow 2 s _ wsX8_isBelow RX8 := ⟨hx, hb, hml, hown, hts⟩
  have hS : va_S (AG G) s.heap s.heap [] := va_S.rf
  have hl := lv_entry ([.int x0, .int x1]) (n := 2) (Nat.le_of_ble_eq_true rfl)
  rw [lg_entry_eq]
  generalize (lg_sl ([.int x0, .int x1]) ++ List.replicate (2 - (lg_sl ([.int x0, .int x1])).length) Slot.unset).toArray = ls at hl ⊢
  have hl : lv_has ls 2 [(0, .int x0), (1, .int x1)] := hl
  unfold f_X8_isBelow at hF
  refine lv_iload_n hx hb dX8_isBelow_0 rfl (lv_at hl 0 rfl) ?_
  refine lv_if_lt (tgt := 13) hx hb dX8_isBelow_1 (by decide) (fun c1 => ?_) (fun c1 => ?_)
  · have hF := ite_t c1 hF
    refine lv_iconst (v := 0) hx hb dX8_isBelow_13 (by decide) ?_
    exact e_zT (b := false) hx hb hr hP hS hlocks dX8_isBelow_14 rfl hF
  · have hF := ite_f c1 hF
    refine lv_iload_n hx hb dX8_isBelow_4 rfl (lv_at hl 0 rfl) ?_
    refine lv_iload_n hx hb dX8_isBelow_5 rfl (lv_at hl 1 rfl) ?_
    refine lv_icmp_ge (tgt := 13) hx hb dX8_isBelow_6 (by decide) (fun c2 => ?_) (fun c2 => ?_)
    · have hF := ite_t c2 hF
      refine lv_iconst (v := 0) hx hb dX8_isBelow_13 (by decide) ?_
      exact e_zT (b := false) hx hb hr hP hS hlocks dX8_isBelow_14 rfl hF
    · have hF := ite_f c2 hF
      refine lv_iconst (v := 1) hx hb dX8_isBelow_9 (by decide) ?_
      refine lv_goto (tgt := 14) hx hb dX8_isBelow_10 (by decide) ?_
      exact e_zT (b := true) hx hb hr hP hS hlocks dX8_isBelow_14 rfl hF
def f_X7_weighBurdens_75 (i0 : Nat) (rec26 : Int32 → St → Option St) (v1 : Int32) (τ : St) : Option St := (rec26 (v1 + (1 : Int32)) τ)
theorem f_X7_weighBurdens_75_e {i0 : Nat} {rec26 : Int32 → St → Option St} {v1 : Int32} {τ : St} : f_X7_weighBurdens_75 i0 rec26 v1 τ = (rec26 (v1 + (1 : Int32)) τ) := rfl
def f_X7_weighBurdens_26 (i0 : Nat) : Nat → (Int32 → St → Option St)
  | 0 => fun _ _ => none
  | fl + 1 => fun v1 τ => (if (τ i0 2) ≤ v1 then (some τ) else (ob (f_X7_toldAt i0 v1 τ) (fun q3 => oc q3 ((f_X7_weighBurdens_75 i0 (f_X7_weighBurdens_26 i0 fl) v1 τ)) (fun i5 => (if (f_X8_isBelow (τ i5 3) (5 : Int32)) = true then (if inb (τ i5 3) 5 then if inb (τ i5 3) 5 then f_X7_weighBurdens_75 i0 (f_X7_weighBurdens_26 i0 fl) v1 (up τ (i0 + 2) ((τ i5 3).toNatClampNeg) ((τ (i0 + 2) (τ i5 3).toNatClampNeg) + (f_X1_burden i5 τ))) else none else none) else f_X7_weighBurdens_75 i0 (f_X7_weighBurdens_26 i0 fl) v1 τ)))))
theorem f_X7_weighBurdens_26_s {i0 : Nat} (fl : Nat) {v1 : Int32} {τ : St} : f_X7_weighBurdens_26 i0 (fl + 1) v1 τ = (if (τ i0 2) ≤ v1 then (some τ) else (ob (f_X7_toldAt i0 v1 τ) (fun q3 => oc q3 ((f_X7_weighBurdens_75 i0 (f_X7_weighBurdens_26 i0 fl) v1 τ)) (fun i5 => (if (f_X8_isBelow (τ i5 3) (5 : Int32)) = true then (if inb (τ i5 3) 5 then if inb (τ i5 3) 5 then f_X7_weighBurdens_75 i0 (f_X7_weighBurdens_26 i0 fl) v1 (up τ (i0 + 2) ((τ i5 3).toNatClampNeg) ((τ (i0 + 2) (τ i5 3).toNatClampNeg) + (f_X1_burden i5 τ))) else none else none) else f_X7_weighBurdens_75 i0 (f_X7_weighBurdens_26 i0 fl) v1 τ))))) := rfl
def f_X7_weighBurdens_2 (i0 : Nat) : Nat → (Int32 → St → Option St)
  | 0 => fun _ _ => none
  | fl + 1 => fun v1 τ => (if (5 : Int32) ≤ v1 then (f_X7_weighBurdens_26 i0 fu (0 : Int32) τ) else (if inb v1 5 then (f_X7_weighBurdens_2 i0 fl) (v1 + (1 : Int32)) (up τ (i0 + 2) v1.toNatClampNeg (0 : Int32)) else none))
theorem f_X7_weighBurdens_2_s {i0 : Nat} (fl : Nat) {v1 : Int32} {τ : St} : f_X7_weighBurdens_2 i0 (fl + 1) v1 τ = (if (5 : Int32) ≤ v1 then (f_X7_weighBurdens_26 i0 fu (0 : Int32) τ) else (if inb v1 5 then (f_X7_weighBurdens_2 i0 fl) (v1 + (1 : Int32)) (up τ (i0 + 2) v1.toNatClampNeg (0 : Int32)) else none)) := rfl
def f_X7_weighBurdens (i0 : Nat) (σ : St) : Option St := (f_X7_weighBurdens_2 i0 fu (0 : Int32) σ)
set_option maxRecDepth 100000 in
set_option maxHeartbeats 4000000 in
theorem t_X7_weighBurdens (l : Launch) (G : GT) (hG : Dw G) (i0 : Nat) (hk0 : kd i0 = 3) (σ : St) (o : St) (hF : f_X7_weighBurdens i0 σ = some o) : Ct l G yX7_weighBurdens wsX7_weighBurdens 2 44 [.ref (gA G i0)] σ none o := by
  refine Met.ofW (cc := cX7_weighBurdens) (maxL := 3) (ret := none) (by decide) rfl ?_
  intro p e s m args below meth c s₁ B hml hv
  obtain ⟨rfl, hP, hK⟩ := hv
  have hx := B.exec
  have hb := B.bytes
  have hr := B.returns
  have hts := atoms_spec (ws := wsX7_weighBurdens) B.pre
  have hown : s.vm.findClass RX7 = some m.cls := findClass_of_methodNamed B.named
  have hlocks := B.notSynchronized
  have Z : CallFix p m c cX7_weighBurdens 3 s _ wsX7_weighBurdens RX7 := ⟨hx, hb, hml, hown, hts⟩
  have hS : va_S (AG G) s.heap s.heap [] := va_S.rf
  have inX7 : ∀ w ∈ u_ws RX7 TX7 4, w ∈ wsX7_weighBurdens := by decide +kernel
  have inX1 : ∀ w ∈ u_ws RX1 TX1 7, w ∈ wsX7_weighBurdens := by decide +kernel
  have w1 := hts (.fieldLink RX7 18 "AlmanacOfTheYearGone$Year" "burdens" "[I") (by decide +kernel)
  have w2 := hts (.fieldLink RX7 22 "AlmanacOfTheYearGone$Year" "deedCount" "I") (by decide +kernel)
  have w3n : va_Nw (.fieldLinkNest "AlmanacOfTheYearGone$Year" 40 "AlmanacOfTheYearGone$Deed" "who" "I" "AlmanacOfTheYearGone") s := hK.2 _ (List.mem_of_getElem? (i := 16) rfl)
  have w3 := va_Nw.use (A := [.ref (gA G i0)].toArray) rfl w3n
  have w4 := hts (.initialized RX8) (by decide +kernel)
  have w5n : va_Nw (.methodLinkNest "AlmanacOfTheYearGone$Year" 80 ⟨"AlmanacOfTheYearGone", "isBelow", "(II)Z"⟩ "AlmanacOfTheYearGone") s := hK.2 _ (List.mem_of_getElem? (i := 79) rfl)
  have w5 := va_Nw.use (A := [.ref (gA G i0)].toArray) rfl w5n
  have w6 := hts (.static yX8_isBelow) (by decide +kernel)
  have w7 := hts (.initialized RX1) (by decide +kernel)
  have w8n : va_Nw (.methodLinkNest "AlmanacOfTheYearGone$Year" 83 ⟨"AlmanacOfTheYearGone$Deed", "burden", "()I"⟩ "AlmanacOfTheYearGone") s := hK.2 _ (List.mem_of_getElem? (i := 80) rfl)
  have w8 := va_Nw.use (A := [.ref (gA G i0)].toArray) rfl w8n
  have w9 := hts (.instanceMethod yX1_burden) (by decide +kernel)
  have w10 := hts (.selects RX1 yX1_burden yX1_burden) (by decide +kernel)
  have hl := lv_entry ([.ref (gA G i0)]) (n := 3) (Nat.le_of_ble_eq_true rfl)
  rw [lg_entry_eq]
  generalize (lg_sl ([.ref (gA G i0)]) ++ List.replicate (3 - (lg_sl ([.ref (gA G i0)])).length) Slot.unset).toArray = ls at hl ⊢
  have hl : lv_has ls 3 [(0, .ref (gA G i0))] := hl
  unfold f_X7_weighBurdens at hF
  refine lv_iconst (v := 0) hx hb dX7_weighBurdens_0 (by decide) ?_
  have J2 : ∀ (fl : Nat) (v1 : Int32) (τ : St) (H : Heap) (locs : List Loc) (hP : Pw G τ H) (hS : va_S (AG G) s.heap H locs) (ls : Array Slot) (hl : lv_has ls 3 [(0, .ref (gA G i0)), (1, .int v1)]) (hF : f_X7_weighBurdens_2 i0 fl v1 τ = some o), W p l e (headSpec wsX7_weighBurdens ({ frames := 2, cells := 0, slots := 0, locals := 44 })).room s m ([.ref (gA G i0)] : List Value).toArray below meth c H locs 0 0 (MQ below (qR G none o) ([.ref (gA G i0)] : List Value).toArray s 0 0 (AG G)) (F0 m 2 ls []) := by
    intro fl2
    induction fl2 with
    | zero => intro v1 τ H locs hP hS ls hl hF; cases hF
    | succ fl2 ih2 =>
      intro v1 τ H locs hP hS ls hl hF
      rw [f_X7_weighBurdens_2_s] at hF
      refine lv_iload_n hx hb dX7_weighBurdens_2 rfl (lv_at hl 1 rfl) ?_
      refine lv_aload_n hx hb dX7_weighBurdens_3 rfl (lv_at hl 0 rfl) ?_
      refine va_get (ci := 3) (C := RX7) (T := TX7) (N := 4) (v := .ref (gA G (i0 + 2))) hx hb hts inX7 hown hK.1 hP i0 (at_3 hk0) rfl 1 (by decide) w1 (fun _ h9 => h9) rfl dX7_weighBurdens_4 ?_
      refine va_alen (v := 5) hx hb hK.1 hP (i0 + 2) 0 (at_6 ((kd_y1 hk0).1) ((kd_y1 hk0).2)) rfl rfl dX7_weighBurdens_7 ?_
      refine lv_icmp_ge (tgt := 24) hx hb dX7_weighBurdens_8 (by decide) (fun c1 => ?_) (fun c1 => ?_)
      · have hF := ite_t c1 hF
        refine lv_iconst (v := 0) hx hb dX7_weighBurdens_24 (by decide) ?_
        have J26 : ∀ (fl : Nat) (v1 : Int32) (τ : St) (H : Heap) (locs : List Loc) (hP : Pw G τ H) (hS : va_S (AG G) s.heap H locs) (ls : Array Slot) (hl : lv_has ls 3 [(0, .ref (gA G i0)), (1, .int v1)]) (hF : f_X7_weighBurdens_26 i0 fl v1 τ = some o), W p l e (headSpec wsX7_weighBurdens ({ frames := 2, cells := 0, slots := 0, locals := 44 })).room s m ([.ref (gA G i0)] : List Value).toArray below meth c H locs 0 0 (MQ below (qR G none o) ([.ref (gA G i0)] : List Value).toArray s 0 0 (AG G)) (F0 m 26 ls []) := by
          intro fl26
          induction fl26 with
          | zero => intro v1 τ H locs hP hS ls hl hF; cases hF
          | succ fl26 ih26 =>
            intro v1 τ H locs hP hS ls hl hF
            rw [f_X7_weighBurdens_26_s] at hF
            refine lv_iload_n hx hb dX7_weighBurdens_26 rfl (lv_at hl 1 rfl) ?_
            refine lv_aload_n hx hb dX7_weighBurdens_27 rfl (lv_at hl 0 rfl) ?_
            refine va_get (ci := 3) (C := RX7) (T := TX7) (N := 4) (v := .int (τ i0 2)) hx hb hts inX7 hown hK.1 hP i0 (at_3 hk0) rfl 2 (by decide) w2 (fun _ h9 => h9) rfl dX7_weighBurdens_28 ?_
            refine lv_icmp_ge (tgt := 81) hx hb dX7_weighBurdens_31 (by decide) (fun c2 => ?_) (fun c2 => ?_)
            · have hF := ite_t c2 hF
              exact e_vS hx hb hr hP hS hlocks dX7_weighBurdens_81 hF
            · have hF := ite_f c2 hF
              refine lv_aload_n hx hb dX7_weighBurdens_34 rfl (lv_at hl 0 rfl) ?_
              refine lv_iload_n hx hb dX7_weighBurdens_35 rfl (lv_at hl 1 rfl) ?_
              obtain ⟨q3, h4, hF⟩ := ob_some hF
              refine k_Vv (As := [.int v1]) (rest := []) Z hK hP hS (t_X7_toldAt l G hG i0 v1 hk0 τ _ h4) (cwV 1 hts gX7_weighBurdens_X7_toldAt rfl rfl rfl (by decide +kernel) ⟨Nat.le_of_ble_eq_true rfl, Nat.le_of_ble_eq_true rfl⟩) (at_3 hk0) rfl rfl hl.1 rfl (Nat.le_of_ble_eq_true rfl) ⟨Nat.zero_le _, Nat.zero_le _⟩ dX7_weighBurdens_36 (fun H locs hP hS => ?_)
              rcases q3 with _ | i5
              · have hF := oc_n hF
                refine W.eq (g2 := F0 m 39 ls [.null]) rfl ?_
                refine lv_astore_nN (lv' := [(2, .null), (0, .ref (gA G i0)), (1, .int v1)]) hx hb dX7_weighBurdens_39 rfl hl (by decide) rfl (fun ls hl => ?_)
                refine lv_aload_nN hx hb dX7_weighBurdens_40 rfl (lv_at hl 0 rfl) ?_
                have J75 : ∀ (v1 : Int32) (τ : St) (H : Heap) (locs : List Loc) (hP : Pw G τ H) (hS : va_S (AG G) s.heap H locs) (ls : Array Slot) (hl : lv_has ls 3 [(0, .ref (gA G i0)), (1, .int v1)]) (hF : f_X7_weighBurdens_75 i0 (f_X7_weighBurdens_26 i0 fl26) v1 τ = some o), W p l e (headSpec wsX7_weighBurdens ({ frames := 2, cells := 0, slots := 0, locals := 44 })).room s m ([.ref (gA G i0)] : List Value).toArray below meth c H locs 0 0 (MQ below (qR G none o) ([.ref (gA G i0)] : List Value).toArray s 0 0 (AG G)) (F0 m 75 ls []) := by
                  intro v1 τ H locs hP hS ls hl hF
                  rw [f_X7_weighBurdens_75_e] at hF
                  refine lv_iinc (v := (v1 + (1 : Int32))) (lv' := [(1, .int (v1 + (1 : Int32))), (0, .ref (gA G i0))]) hx hb dX7_weighBurdens_75 hl (k := 1) rfl rfl (by decide) rfl (fun ls hl => ?_)
                  refine lv_goto (tgt := 26) hx hb dX7_weighBurdens_78 (by decide) ?_
                  exact ih26 (v1 + (1 : Int32)) τ _ _ hP hS ls (lv_sub hl [1, 0] rfl) hF
                refine lv_ifnullN (tgt := 75) hx hb dX7_weighBurdens_41 (by decide) ?_
                exact J75 v1 τ _ _ hP hS ls (lv_sub hl [1, 2] rfl) hF
              · have hF := oc_s hF
                have ki5 : kd i5 = 1 := q_X7_toldAt hk0 h4
                refine W.eq (g2 := F0 m 39 ls [.ref (gA G i5)]) rfl ?_
                refine lv_astore_n (lv' := [(2, .ref (gA G i5)), (0, .ref (gA G i0)), (1, .int v1)]) hx hb dX7_weighBurdens_39 rfl hl (by decide) rfl (fun ls hl => ?_)
                refine lv_aload_n hx hb dX7_weighBurdens_40 rfl (lv_at hl 0 rfl) ?_
                have J75 : ∀ (v1 : Int32) (τ : St) (H : Heap) (locs : List Loc) (hP : Pw G τ H) (hS : va_S (AG G) s.heap H locs) (ls : Array Slot) (hl : lv_has ls 3 [(0, .ref (gA G i0)), (1, .int v1)]) (hF : f_X7_weighBurdens_75 i0 (f_X7_weighBurdens_26 i0 fl26) v1 τ = some o), W p l e (headSpec wsX7_weighBurdens ({ frames := 2, cells := 0, slots := 0, locals := 44 })).room s m ([.ref (gA G i0)] : List Value).toArray below meth c H locs 0 0 (MQ below (qR G none o) ([.ref (gA G i0)] : List Value).toArray s 0 0 (AG G)) (F0 m 75 ls []) := by
                  intro v1 τ H locs hP hS ls hl hF
                  rw [f_X7_weighBurdens_75_e] at hF
                  refine lv_iinc (v := (v1 + (1 : Int32))) (lv' := [(1, .int (v1 + (1 : Int32))), (0, .ref (gA G i0))]) hx hb dX7_weighBurdens_75 hl (k := 1) rfl rfl (by decide) rfl (fun ls hl => ?_)
                  refine lv_goto (tgt := 26) hx hb dX7_weighBurdens_78 (by decide) ?_
                  exact ih26 (v1 + (1 : Int32)) τ _ _ hP hS ls (lv_sub hl [1, 0] rfl) hF
                refine lv_ifnull hx hb dX7_weighBurdens_41 ?_
                refine lv_aload_n hx hb dX7_weighBurdens_44 rfl (lv_at hl 0 rfl) ?_
                refine va_getN (ci := 1) (C := RX1) (T := TX1) (N := 7) (v := .int (τ i5 3)) hx hb hts inX1 hown hK.1 hP i5 (at_1 ki5) rfl 3 (by decide) w3 (fun _ h9 => h9) rfl dX7_weighBurdens_45 ?_
                refine lv_aload_n hx hb dX7_weighBurdens_48 rfl (lv_at hl 1 rfl) ?_
                refine va_get (ci := 3) (C := RX7) (T := TX7) (N := 4) (v := .ref (gA G (i0 + 2))) hx hb hts inX7 hown hK.1 hP i0 (at_3 hk0) rfl 1 (by decide) w1 (fun _ h9 => h9) rfl dX7_weighBurdens_49 ?_
                refine va_alen (v := 5) hx hb hK.1 hP (i0 + 2) 0 (at_6 ((kd_y1 hk0).1) ((kd_y1 hk0).2)) rfl rfl dX7_weighBurdens_52 ?_
                refine k_SNv (As := [.int (τ i5 3), .int (5 : Int32)]) (rest := []) Z hK hP hS (t_X8_isBelow l G hG (τ i5 3) (5 : Int32) τ) ⟨va_cnB 2 hts gX7_weighBurdens_X8_isBelow_n80 rfl rfl rfl w5n w4 (by decide +kernel) ⟨Nat.le_of_ble_eq_true rfl, Nat.le_of_ble_eq_true rfl⟩, w6, trivial⟩ rfl hl.1 rfl (Nat.le_of_ble_eq_true rfl) ⟨Nat.zero_le _, Nat.zero_le _⟩ dX7_weighBurdens_53 (fun H locs hP hS => ?_)
                refine lv_if_eq (tgt := 75) hx hb dX7_weighBurdens_56 (by decide) (fun c6 => ?_) (fun c6 => ?_)
                · have hF := ite_f (b2i_e0 c6) hF
                  exact J75 v1 τ _ _ hP hS ls (lv_sub hl [1, 2] rfl) hF
                · have hF := ite_t (b2i_n0 c6) hF
                  refine lv_aload_n hx hb dX7_weighBurdens_59 rfl (lv_at hl 1 rfl) ?_
                  refine va_get (ci := 3) (C := RX7) (T := TX7) (N := 4) (v := .ref (gA G (i0 + 2))) hx hb hts inX7 hown hK.1 hP i0 (at_3 hk0) rfl 1 (by decide) w1 (fun _ h9 => h9) rfl dX7_weighBurdens_60 ?_
                  refine lv_aload_n hx hb dX7_weighBurdens_63 rfl (lv_at hl 0 rfl) ?_
                  refine va_getN (ci := 1) (C := RX1) (T := TX1) (N := 7) (v := .int (τ i5 3)) hx hb hts inX1 hown hK.1 hP i5 (at_1 ki5) rfl 3 (by decide) w3 (fun _ h9 => h9) rfl dX7_weighBurdens_64 ?_
                  refine lv_dup2_11 hx hb dX7_weighBurdens_67 rfl rfl ?_
                  obtain ⟨b7, hF⟩ := ite_some hF
                  refine va_iald hx hb hK.1 hP (i0 + 2) 0 (at_6 ((kd_y1 hk0).1) ((kd_y1 hk0).2)) rfl (inb_in b7) dX7_weighBurdens_68 ?_
                  refine lv_aload_n hx hb dX7_weighBurdens_69 rfl (lv_at hl 0 rfl) ?_
                  refine k_VNv (As := []) (rest := [.int (τ (i0 + 2) (τ i5 3).toNatClampNeg), .int (τ i5 3), .ref (gA G (i0 + 2))]) Z hK hP hS (t_X1_burden l G hG i5 ki5 τ) ⟨va_cnB 0 hts gX7_weighBurdens_X1_burden_n83 rfl rfl rfl w8n w7 (by decide +kernel) ⟨Nat.le_of_ble_eq_true rfl, Nat.le_of_ble_eq_true rfl⟩, w9, w10⟩ (at_1 ki5) rfl rfl hl.1 rfl (Nat.le_of_ble_eq_true rfl) ⟨Nat.zero_le _, Nat.zero_le _⟩ dX7_weighBurdens_70 (fun H locs hP hS => ?_)
                  refine lv_iadd hx hb dX7_weighBurdens_73 ?_
                  obtain ⟨b8, hF⟩ := ite_some hF
                  refine va_iast hx hb hK.1 hP (Dw.D hG) hS (i0 + 2) 0 (at_6 ((kd_y1 hk0).1) ((kd_y1 hk0).2)) rfl (inb_in b8) dX7_weighBurdens_74 (fun H locs hP _ hS => ?_)
                  have hP : Pw G (up τ (i0 + 2) ((τ i5 3).toNatClampNeg) ((τ (i0 + 2) (τ i5 3).toNatClampNeg) + (f_X1_burden i5 τ))) H := Pw.of hP (set_6 ((kd_y1 hk0).1) ((kd_y1 hk0).2))
                  exact J75 v1 (up τ (i0 + 2) ((τ i5 3).toNatClampNeg) ((τ (i0 + 2) (τ i5 3).toNatClampNeg) + (f_X1_burden i5 τ))) _ _ hP hS ls (lv_sub hl [1, 2] rfl) hF
        refine lv_istore_n (lv' := [(1, .int (0 : Int32)), (0, .ref (gA G i0))]) hx hb dX7_weighBurdens_25 rfl hl (by decide) rfl (fun ls hl => ?_)
        exact J26 fu (0 : Int32) τ _ _ hP hS ls (lv_sub hl [1, 0] rfl) hF
      · have hF := ite_f c1 hF
        refine lv_aload_n hx hb dX7_weighBurdens_11 rfl (lv_at hl 0 rfl) ?_
        refine va_get (ci := 3) (C := RX7) (T := TX7) (N := 4) (v := .ref (gA G (i0 + 2))) hx hb hts inX7 hown hK.1 hP i0 (at_3 hk0) rfl 1 (by decide) w1 (fun _ h9 => h9) rfl dX7_weighBurdens_12 ?_
        refine lv_iload_n hx hb dX7_weighBurdens_15 rfl (lv_at hl 1 rfl) ?_
        refine lv_iconst (v := 0) hx hb dX7_weighBurdens_16 (by decide) ?_
        obtain ⟨b9, hF⟩ := ite_some hF
        refine va_iast hx hb hK.1 hP (Dw.D hG) hS (i0 + 2) 0 (at_6 ((kd_y1 hk0).1) ((kd_y1 hk0).2)) rfl (inb_in b9) dX7_weighBurdens_17 (fun H locs hP _ hS => ?_)
        have hP : Pw G (up τ (i0 + 2) v1.toNatClampNeg (0 : Int32)) H := Pw.of hP (set_6 ((kd_y1 hk0).1) ((kd_y1 hk0).2))
        refine lv_iinc (v := (v1 + (1 : Int32))) (lv' := [(1, .int (v1 + (1 : Int32))), (0, .ref (gA G i0))]) hx hb dX7_weighBurdens_18 hl (k := 1) rfl rfl (by decide) rfl (fun ls hl => ?_)
        refine lv_goto (tgt := 2) hx hb dX7_weighBurdens_21 (by decide) ?_
        exact ih2 (v1 + (1 : Int32)) (up τ (i0 + 2) v1.toNatClampNeg (0 : Int32)) _ _ hP hS ls (lv_sub hl [1, 0] rfl) hF
  refine lv_istore_n (lv' := [(1, .int (0 : Int32)), (0, .ref (gA G i0))]) hx hb dX7_weighBurdens_1 rfl hl (by decide) rfl (fun ls hl => ?_)
  exact J2 fu (0 : Int32) σ _ _ hP hS ls (lv_sub hl [1, 0] rfl) hF
def f_X7_burdenedWith_29 (i0 : Nat) (x1 : Int32) (σ : St) (rec4 : Int32 → Int32 → Option Int32) (v2 : Int32) (v3 : Int32) : Option Int32 := (rec4 v2 (v3 + (1 : Int32)))
theorem f_X7_burdenedWith_29_e {i0 : Nat} {x1 : Int32} {σ : St} {rec4 : Int32 → Int32 → Option Int32} {v2 : Int32} {v3 : Int32} : f_X7_burdenedWith_29 i0 x1 σ rec4 v2 v3 = (rec4 v2 (v3 + (1 : Int32))) := rfl
def f_X7_burdenedWith_4 (i0 : Nat) (x1 : Int32) (σ : St) : Nat → (Int32 → Int32 → Option Int32)
  | 0 => fun _ _ => none
  | fl + 1 => fun v2 v3 => (if (5 : Int32) ≤ v3 then (some v2) else (if inb v3 5 then if (σ (i0 + 2) v3.toNatClampNeg) < x1 then f_X7_burdenedWith_29 i0 x1 σ (f_X7_burdenedWith_4 i0 x1 σ fl) v2 v3 else (f_X7_burdenedWith_29 i0 x1 σ (f_X7_burdenedWith_4 i0 x1 σ fl) (v2 ||| ((1 : Int32) <<< (v3 &&& 31))) v3) else none))
theorem f_X7_burdenedWith_4_s {i0 : Nat} {x1 : Int32} {σ : St} (fl : Nat) {v2 : Int32} {v3 : Int32} : f_X7_burdenedWith_4 i0 x1 σ (fl + 1) v2 v3 = (if (5 : Int32) ≤ v3 then (some v2) else (if inb v3 5 then if (σ (i0 + 2) v3.toNatClampNeg) < x1 then f_X7_burdenedWith_29 i0 x1 σ (f_X7_burdenedWith_4 i0 x1 σ fl) v2 v3 else (f_X7_burdenedWith_29 i0 x1 σ (f_X7_burdenedWith_4 i0 x1 σ fl) (v2 ||| ((1 : Int32) <<< (v3 &&& 31))) v3) else none)) := rfl
def f_X7_burdenedWith (i0 : Nat) (x1 : Int32) (σ : St) : Option Int32 := (f_X7_burdenedWith_4 i0 x1 σ fu (0 : Int32) (0 : Int32))
set_option maxRecDepth 100000 in
set_option maxHeartbeats 4000000 in
theorem t_X7_burdenedWith (l : Launch) (G : GT) (hG : Dw G) (i0 : Nat) (x1 : Int32) (hk0 : kd i0 = 3) (σ : St) (o : Int32) (hF : f_X7_burdenedWith i0 x1 σ = some o) : Ct l G yX7_burdenedWith wsX7_burdenedWith 0 0 [.ref (gA G i0), .int x1] σ (some (.int o)) σ := by
  refine Met.ofW (cc := cX7_burdenedWith) (maxL := 4) (ret := (some .int)) (by decide) rfl ?_
  intro p e s m args below meth c s₁ B hml hv
  obtain ⟨rfl, hP, hK⟩ := hv
  have hx := B.exec
  have hb := B.bytes
  have hr := B.returns
  have hts := atoms_spec (ws := wsX7_burdenedWith) B.pre
  have hown : s.vm.findClass RX7 = some m.cls := findClass_of_methodNamed B.named
  have hlocks := B.notSynchronized
  have Z : CallFix p m c cX7_burdenedWith 4 s _ wsX7_burdenedWith RX7 := ⟨hx, hb, hml, hown, hts⟩
  have hS : va_S (AG G) s.heap s.heap [] := va_S.rf
  have inX7 : ∀ w ∈ u_ws RX7 TX7 4, w ∈ wsX7_burdenedWith := by decide +kernel
  have w1 := hts (.fieldLink RX7 18 "AlmanacOfTheYearGone$Year" "burdens" "[I") (by decide +kernel)
  have hl := lv_entry ([.ref (gA G i0), .int x1]) (n := 4) (Nat.le_of_ble_eq_true rfl)
  rw [lg_entry_eq]
  generalize (lg_sl ([.ref (gA G i0), .int x1]) ++ List.replicate (4 - (lg_sl ([.ref (gA G i0), .int x1])).length) Slot.unset).toArray = ls at hl ⊢
  have hl : lv_has ls 4 [(0, .ref (gA G i0)), (1, .int x1)] := hl
  unfold f_X7_burdenedWith at hF
  refine lv_iconst (v := 0) hx hb dX7_burdenedWith_0 (by decide) ?_
  refine lv_istore_n (lv' := [(2, .int (0 : Int32)), (0, .ref (gA G i0)), (1, .int x1)]) hx hb dX7_burdenedWith_1 rfl hl (by decide) rfl (fun ls hl => ?_)
  refine lv_iconst (v := 0) hx hb dX7_burdenedWith_2 (by decide) ?_
  have J4 : ∀ (fl : Nat) (v2 : Int32) (v3 : Int32) (H : Heap) (locs : List Loc) (hP : Pw G σ H) (hS : va_S (AG G) s.heap H locs) (ls : Array Slot) (hl : lv_has ls 4 [(0, .ref (gA G i0)), (1, .int x1), (2, .int v2), (3, .int v3)]) (hF : f_X7_burdenedWith_4 i0 x1 σ fl v2 v3 = some o), W p l e (headSpec wsX7_burdenedWith ({ frames := 0, cells := 0, slots := 0, locals := 0 })).room s m ([.ref (gA G i0), .int x1] : List Value).toArray below meth c H locs 0 0 (MQ below (qR G (some (.int o)) σ) ([.ref (gA G i0), .int x1] : List Value).toArray s 0 0 (AG G)) (F0 m 4 ls []) := by
    intro fl4
    induction fl4 with
    | zero => intro v2 v3 H locs hP hS ls hl hF; cases hF
    | succ fl4 ih4 =>
      intro v2 v3 H locs hP hS ls hl hF
      rw [f_X7_burdenedWith_4_s] at hF
      refine lv_iload_n hx hb dX7_burdenedWith_4 rfl (lv_at hl 3 rfl) ?_
      refine lv_aload_n hx hb dX7_burdenedWith_5 rfl (lv_at hl 0 rfl) ?_
      refine va_get (ci := 3) (C := RX7) (T := TX7) (N := 4) (v := .ref (gA G (i0 + 2))) hx hb hts inX7 hown hK.1 hP i0 (at_3 hk0) rfl 1 (by decide) w1 (fun _ h9 => h9) rfl dX7_burdenedWith_6 ?_
      refine va_alen (v := 5) hx hb hK.1 hP (i0 + 2) 0 (at_6 ((kd_y1 hk0).1) ((kd_y1 hk0).2)) rfl rfl dX7_burdenedWith_9 ?_
      refine lv_icmp_ge (tgt := 35) hx hb dX7_burdenedWith_10 (by decide) (fun c1 => ?_) (fun c1 => ?_)
      · have hF := ite_t c1 hF
        refine lv_iload_n hx hb dX7_burdenedWith_35 rfl (lv_at hl 2 rfl) ?_
        exact e_iP hx hb hr hP hS hlocks dX7_burdenedWith_36 hF
      · have hF := ite_f c1 hF
        refine lv_aload_n hx hb dX7_burdenedWith_13 rfl (lv_at hl 0 rfl) ?_
        refine va_get (ci := 3) (C := RX7) (T := TX7) (N := 4) (v := .ref (gA G (i0 + 2))) hx hb hts inX7 hown hK.1 hP i0 (at_3 hk0) rfl 1 (by decide) w1 (fun _ h9 => h9) rfl dX7_burdenedWith_14 ?_
        refine lv_iload_n hx hb dX7_burdenedWith_17 rfl (lv_at hl 3 rfl) ?_
        obtain ⟨b2, hF⟩ := ite_some hF
        refine va_iald hx hb hK.1 hP (i0 + 2) 0 (at_6 ((kd_y1 hk0).1) ((kd_y1 hk0).2)) rfl (inb_in b2) dX7_burdenedWith_18 ?_
        refine lv_iload_n hx hb dX7_burdenedWith_19 rfl (lv_at hl 1 rfl) ?_
        have J29 : ∀ (v2 : Int32) (v3 : Int32) (H : Heap) (locs : List Loc) (hP : Pw G σ H) (hS : va_S (AG G) s.heap H locs) (ls : Array Slot) (hl : lv_has ls 4 [(0, .ref (gA G i0)), (1, .int x1), (2, .int v2), (3, .int v3)]) (hF : f_X7_burdenedWith_29 i0 x1 σ (f_X7_burdenedWith_4 i0 x1 σ fl4) v2 v3 = some o), W p l e (headSpec wsX7_burdenedWith ({ frames := 0, cells := 0, slots := 0, locals := 0 })).room s m ([.ref (gA G i0), .int x1] : List Value).toArray below meth c H locs 0 0 (MQ below (qR G (some (.int o)) σ) ([.ref (gA G i0), .int x1] : List Value).toArray s 0 0 (AG G)) (F0 m 29 ls []) := by
          intro v2 v3 H locs hP hS ls hl hF
          rw [f_X7_burdenedWith_29_e] at hF
          refine lv_iinc (v := (v3 + (1 : Int32))) (lv' := [(3, .int (v3 + (1 : Int32))), (0, .ref (gA G i0)), (1, .int x1), (2, .int v2)]) hx hb dX7_burdenedWith_29 hl (k := 3) rfl rfl (by decide) rfl (fun ls hl => ?_)
          refine lv_goto (tgt := 4) hx hb dX7_burdenedWith_32 (by decide) ?_
          exact ih4 v2 (v3 + (1 : Int32)) _ _ hP hS ls (lv_sub hl [1, 2, 3, 0] rfl) hF
        refine lv_icmp_lt (tgt := 29) hx hb dX7_burdenedWith_20 (by decide) (fun c3 => ?_) (fun c3 => ?_)
        · have hF := ite_t c3 hF
          exact J29 v2 v3 _ _ hP hS ls (lv_sub hl [0, 1, 2, 3] rfl) hF
        · have hF := ite_f c3 hF
          refine lv_iload_n hx hb dX7_burdenedWith_23 rfl (lv_at hl 2 rfl) ?_
          refine lv_iconst (v := 1) hx hb dX7_burdenedWith_24 (by decide) ?_
          refine lv_iload_n hx hb dX7_burdenedWith_25 rfl (lv_at hl 3 rfl) ?_
          refine lv_ishl hx hb dX7_burdenedWith_26 ?_
          refine lv_ior hx hb dX7_burdenedWith_27 ?_
          refine lv_istore_n (lv' := [(2, .int (v2 ||| ((1 : Int32) <<< (v3 &&& 31)))), (0, .ref (gA G i0)), (1, .int x1), (3, .int v3)]) hx hb dX7_burdenedWith_28 rfl hl (by decide) rfl (fun ls hl => ?_)
          exact J29 (v2 ||| ((1 : Int32) <<< (v3 &&& 31))) v3 _ _ hP hS ls (lv_sub hl [1, 2, 0, 3] rfl) hF
  refine lv_istore_n (lv' := [(3, .int (0 : Int32)), (2, .int (0 : Int32)), (0, .ref (gA G i0)), (1, .int x1)]) hx hb dX7_burdenedWith_3 rfl hl (by decide) rfl (fun ls hl => ?_)
  exact J4 fu (0 : Int32) (0 : Int32) _ _ hP hS ls (lv_sub hl [2, 3, 1, 0] rfl) hF
def f_X7_sizesBut_40 (i0 : Nat) (x1 : Int32) (σ : St) (rec4 : Int32 → Int32 → Option Int32) (v2 : Int32) (v3 : Int32) : Option Int32 := (rec4 v2 (v3 + (1 : Int32)))
theorem f_X7_sizesBut_40_e {i0 : Nat} {x1 : Int32} {σ : St} {rec4 : Int32 → Int32 → Option Int32} {v2 : Int32} {v3 : Int32} : f_X7_sizesBut_40 i0 x1 σ rec4 v2 v3 = (rec4 v2 (v3 + (1 : Int32))) := rfl
def f_X7_sizesBut_4 (i0 : Nat) (x1 : Int32) (σ : St) : Nat → (Int32 → Int32 → Option Int32)
  | 0 => fun _ _ => none
  | fl + 1 => fun v2 v3 => (if (σ i0 2) ≤ v3 then (some v2) else (ob (f_X7_toldAt i0 v3 σ) (fun q2 => oc q2 ((f_X7_sizesBut_40 i0 x1 σ (f_X7_sizesBut_4 i0 x1 σ fl) v2 v3)) (fun i4 => (if ((x1 >>> (v3 &&& 31)) &&& (1 : Int32)) = 0 then (f_X7_sizesBut_40 i0 x1 σ (f_X7_sizesBut_4 i0 x1 σ fl) (v2 + (f_X1_size i4 σ)) v3) else f_X7_sizesBut_40 i0 x1 σ (f_X7_sizesBut_4 i0 x1 σ fl) v2 v3)))))
theorem f_X7_sizesBut_4_s {i0 : Nat} {x1 : Int32} {σ : St} (fl : Nat) {v2 : Int32} {v3 : Int32} : f_X7_sizesBut_4 i0 x1 σ (fl + 1) v2 v3 = (if (σ i0 2) ≤ v3 then (some v2) else (ob (f_X7_toldAt i0 v3 σ) (fun q2 => oc q2 ((f_X7_sizesBut_40 i0 x1 σ (f_X7_sizesBut_4 i0 x1 σ fl) v2 v3)) (fun i4 => (if ((x1 >>> (v3 &&& 31)) &&& (1 : Int32)) = 0 then (f_X7_sizesBut_40 i0 x1 σ (f_X7_sizesBut_4 i0 x1 σ fl) (v2 + (f_X1_size i4 σ)) v3) else f_X7_sizesBut_40 i0 x1 σ (f_X7_sizesBut_4 i0 x1 σ fl) v2 v3))))) := rfl
def f_X7_sizesBut (i0 : Nat) (x1 : Int32) (σ : St) : Option Int32 := (f_X7_sizesBut_4 i0 x1 σ fu (0 : Int32) (0 : Int32))
set_option maxRecDepth 100000 in
set_option maxHeartbeats 4000000 in
theorem t_X7_sizesBut (l : Launch) (G : GT) (hG : Dw G) (i0 : Nat) (x1 : Int32) (hk0 : kd i0 = 3) (σ : St) (o : Int32) (hF : f_X7_sizesBut i0 x1 σ = some o) : Ct l G yX7_sizesBut wsX7_sizesBut 2 43 [.ref (gA G i0), .int x1] σ (some (.int o)) σ := by
  refine Met.ofW (cc := cX7_sizesBut) (maxL := 5) (ret := (some .int)) (by decide) rfl ?_
  intro p e s m args below meth c s₁ B hml hv
  obtain ⟨rfl, hP, hK⟩ := hv
  have hx := B.exec
  have hb := B.bytes
  have hr := B.returns
  have hts := atoms_spec (ws := wsX7_sizesBut) B.pre
  have hown : s.vm.findClass RX7 = some m.cls := findClass_of_methodNamed B.named
  have hlocks := B.notSynchronized
  have Z : CallFix p m c cX7_sizesBut 5 s _ wsX7_sizesBut RX7 := ⟨hx, hb, hml, hown, hts⟩
  have hS : va_S (AG G) s.heap s.heap [] := va_S.rf
  have inX7 : ∀ w ∈ u_ws RX7 TX7 4, w ∈ wsX7_sizesBut := by decide +kernel
  have w1 := hts (.fieldLink RX7 22 "AlmanacOfTheYearGone$Year" "deedCount" "I") (by decide +kernel)
  have w2 := hts (.initialized RX1) (by decide +kernel)
  have w3n : va_Nw (.methodLinkNest "AlmanacOfTheYearGone$Year" 87 ⟨"AlmanacOfTheYearGone$Deed", "size", "()I"⟩ "AlmanacOfTheYearGone") s := hK.2 _ (List.mem_of_getElem? (i := 95) rfl)
  have w3 := va_Nw.use (A := [.ref (gA G i0), .int x1].toArray) rfl w3n
  have w4 := hts (.instanceMethod yX1_size) (by decide +kernel)
  have w5 := hts (.selects RX1 yX1_size yX1_size) (by decide +kernel)
  have hl := lv_entry ([.ref (gA G i0), .int x1]) (n := 5) (Nat.le_of_ble_eq_true rfl)
  rw [lg_entry_eq]
  generalize (lg_sl ([.ref (gA G i0), .int x1]) ++ List.replicate (5 - (lg_sl ([.ref (gA G i0), .int x1])).length) Slot.unset).toArray = ls at hl ⊢
  have hl : lv_has ls 5 [(0, .ref (gA G i0)), (1, .int x1)] := hl
  unfold f_X7_sizesBut at hF
  refine lv_iconst (v := 0) hx hb dX7_sizesBut_0 (by decide) ?_
  refine lv_istore_n (lv' := [(2, .int (0 : Int32)), (0, .ref (gA G i0)), (1, .int x1)]) hx hb dX7_sizesBut_1 rfl hl (by decide) rfl (fun ls hl => ?_)
  refine lv_iconst (v := 0) hx hb dX7_sizesBut_2 (by decide) ?_
  have J4 : ∀ (fl : Nat) (v2 : Int32) (v3 : Int32) (H : Heap) (locs : List Loc) (hP : Pw G σ H) (hS : va_S (AG G) s.heap H locs) (ls : Array Slot) (hl : lv_has ls 5 [(0, .ref (gA G i0)), (1, .int x1), (2, .int v2), (3, .int v3)]) (hF : f_X7_sizesBut_4 i0 x1 σ fl v2 v3 = some o), W p l e (headSpec wsX7_sizesBut ({ frames := 2, cells := 0, slots := 0, locals := 43 })).room s m ([.ref (gA G i0), .int x1] : List Value).toArray below meth c H locs 0 0 (MQ below (qR G (some (.int o)) σ) ([.ref (gA G i0), .int x1] : List Value).toArray s 0 0 (AG G)) (F0 m 4 ls []) := by
    intro fl4
    induction fl4 with
    | zero => intro v2 v3 H locs hP hS ls hl hF; cases hF
    | succ fl4 ih4 =>
      intro v2 v3 H locs hP hS ls hl hF
      rw [f_X7_sizesBut_4_s] at hF
      refine lv_iload_n hx hb dX7_sizesBut_4 rfl (lv_at hl 3 rfl) ?_
      refine lv_aload_n hx hb dX7_sizesBut_5 rfl (lv_at hl 0 rfl) ?_
      refine va_get (ci := 3) (C := RX7) (T := TX7) (N := 4) (v := .int (σ i0 2)) hx hb hts inX7 hown hK.1 hP i0 (at_3 hk0) rfl 2 (by decide) w1 (fun _ h9 => h9) rfl dX7_sizesBut_6 ?_
      refine lv_icmp_ge (tgt := 46) hx hb dX7_sizesBut_9 (by decide) (fun c1 => ?_) (fun c1 => ?_)
      · have hF := ite_t c1 hF
        refine lv_iload_n hx hb dX7_sizesBut_46 rfl (lv_at hl 2 rfl) ?_
        exact e_iP hx hb hr hP hS hlocks dX7_sizesBut_47 hF
      · have hF := ite_f c1 hF
        refine lv_aload_n hx hb dX7_sizesBut_12 rfl (lv_at hl 0 rfl) ?_
        refine lv_iload_n hx hb dX7_sizesBut_13 rfl (lv_at hl 3 rfl) ?_
        obtain ⟨q2, h3, hF⟩ := ob_some hF
        refine k_Vv (As := [.int v3]) (rest := []) Z hK hP hS (t_X7_toldAt l G hG i0 v3 hk0 σ _ h3) (cwV 1 hts gX7_sizesBut_X7_toldAt rfl rfl rfl (by decide +kernel) ⟨Nat.le_of_ble_eq_true rfl, Nat.le_of_ble_eq_true rfl⟩) (at_3 hk0) rfl rfl hl.1 rfl (Nat.le_of_ble_eq_true rfl) ⟨Nat.zero_le _, Nat.zero_le _⟩ dX7_sizesBut_14 (fun H locs hP hS => ?_)
        rcases q2 with _ | i4
        · have hF := oc_n hF
          refine W.eq (g2 := F0 m 17 ls [.null]) rfl ?_
          refine lv_astoreN (lv' := [(4, .null), (0, .ref (gA G i0)), (1, .int x1), (2, .int v2), (3, .int v3)]) hx hb dX7_sizesBut_17 hl (by decide) rfl (fun ls hl => ?_)
          refine lv_aloadN hx hb dX7_sizesBut_19 (lv_at hl 0 rfl) ?_
          have J40 : ∀ (v2 : Int32) (v3 : Int32) (H : Heap) (locs : List Loc) (hP : Pw G σ H) (hS : va_S (AG G) s.heap H locs) (ls : Array Slot) (hl : lv_has ls 5 [(0, .ref (gA G i0)), (1, .int x1), (2, .int v2), (3, .int v3)]) (hF : f_X7_sizesBut_40 i0 x1 σ (f_X7_sizesBut_4 i0 x1 σ fl4) v2 v3 = some o), W p l e (headSpec wsX7_sizesBut ({ frames := 2, cells := 0, slots := 0, locals := 43 })).room s m ([.ref (gA G i0), .int x1] : List Value).toArray below meth c H locs 0 0 (MQ below (qR G (some (.int o)) σ) ([.ref (gA G i0), .int x1] : List Value).toArray s 0 0 (AG G)) (F0 m 40 ls []) := by
            intro v2 v3 H locs hP hS ls hl hF
            rw [f_X7_sizesBut_40_e] at hF
            refine lv_iinc (v := (v3 + (1 : Int32))) (lv' := [(3, .int (v3 + (1 : Int32))), (0, .ref (gA G i0)), (1, .int x1), (2, .int v2)]) hx hb dX7_sizesBut_40 hl (k := 3) rfl rfl (by decide) rfl (fun ls hl => ?_)
            refine lv_goto (tgt := 4) hx hb dX7_sizesBut_43 (by decide) ?_
            exact ih4 v2 (v3 + (1 : Int32)) _ _ hP hS ls (lv_sub hl [1, 2, 3, 0] rfl) hF
          refine lv_ifnullN (tgt := 40) hx hb dX7_sizesBut_21 (by decide) ?_
          exact J40 v2 v3 _ _ hP hS ls (lv_sub hl [1, 2, 3, 4] rfl) hF
        · have hF := oc_s hF
          have ki4 : kd i4 = 1 := q_X7_toldAt hk0 h3
          refine W.eq (g2 := F0 m 17 ls [.ref (gA G i4)]) rfl ?_
          refine lv_astore (lv' := [(4, .ref (gA G i4)), (0, .ref (gA G i0)), (1, .int x1), (2, .int v2), (3, .int v3)]) hx hb dX7_sizesBut_17 hl (by decide) rfl (fun ls hl => ?_)
          refine lv_aload hx hb dX7_sizesBut_19 (lv_at hl 0 rfl) ?_
          have J40 : ∀ (v2 : Int32) (v3 : Int32) (H : Heap) (locs : List Loc) (hP : Pw G σ H) (hS : va_S (AG G) s.heap H locs) (ls : Array Slot) (hl : lv_has ls 5 [(0, .ref (gA G i0)), (1, .int x1), (2, .int v2), (3, .int v3)]) (hF : f_X7_sizesBut_40 i0 x1 σ (f_X7_sizesBut_4 i0 x1 σ fl4) v2 v3 = some o), W p l e (headSpec wsX7_sizesBut ({ frames := 2, cells := 0, slots := 0, locals := 43 })).room s m ([.ref (gA G i0), .int x1] : List Value).toArray below meth c H locs 0 0 (MQ below (qR G (some (.int o)) σ) ([.ref (gA G i0), .int x1] : List Value).toArray s 0 0 (AG G)) (F0 m 40 ls []) := by
            intro v2 v3 H locs hP hS ls hl hF
            rw [f_X7_sizesBut_40_e] at hF
            refine lv_iinc (v := (v3 + (1 : Int32))) (lv' := [(3, .int (v3 + (1 : Int32))), (0, .ref (gA G i0)), (1, .int x1), (2, .int v2)]) hx hb dX7_sizesBut_40 hl (k := 3) rfl rfl (by decide) rfl (fun ls hl => ?_)
            refine lv_goto (tgt := 4) hx hb dX7_sizesBut_43 (by decide) ?_
            exact ih4 v2 (v3 + (1 : Int32)) _ _ hP hS ls (lv_sub hl [1, 2, 3, 0] rfl) hF
          refine lv_ifnull hx hb dX7_sizesBut_21 ?_
          refine lv_iload_n hx hb dX7_sizesBut_24 rfl (lv_at hl 2 rfl) ?_
          refine lv_iload_n hx hb dX7_sizesBut_25 rfl (lv_at hl 4 rfl) ?_
          refine lv_ishr hx hb dX7_sizesBut_26 ?_
          refine lv_iconst (v := 1) hx hb dX7_sizesBut_27 (by decide) ?_
          refine lv_iand hx hb dX7_sizesBut_28 ?_
          refine lv_if_ne (tgt := 40) hx hb dX7_sizesBut_29 (by decide) (fun c5 => ?_) (fun c5 => ?_)
          · have hF := ite_f c5 hF
            exact J40 v2 v3 _ _ hP hS ls (lv_sub hl [1, 2, 3, 4] rfl) hF
          · have hF := ite_t c5 hF
            refine lv_iload_n hx hb dX7_sizesBut_32 rfl (lv_at hl 3 rfl) ?_
            refine lv_aload hx hb dX7_sizesBut_33 (lv_at hl 0 rfl) ?_
            refine k_VNv (As := []) (rest := [.int v2]) Z hK hP hS (t_X1_size l G hG i4 ki4 σ) ⟨va_cnB 0 hts gX7_sizesBut_X1_size_n87 rfl rfl rfl w3n w2 (by decide +kernel) ⟨Nat.le_of_ble_eq_true rfl, Nat.le_of_ble_eq_true rfl⟩, w4, w5⟩ (at_1 ki4) rfl rfl hl.1 rfl (Nat.le_of_ble_eq_true rfl) ⟨Nat.zero_le _, Nat.zero_le _⟩ dX7_sizesBut_35 (fun H locs hP hS => ?_)
            refine lv_iadd hx hb dX7_sizesBut_38 ?_
            refine lv_istore_n (lv' := [(2, .int (v2 + (f_X1_size i4 σ))), (4, .ref (gA G i4)), (0, .ref (gA G i0)), (1, .int x1), (3, .int v3)]) hx hb dX7_sizesBut_39 rfl hl (by decide) rfl (fun ls hl => ?_)
            exact J40 (v2 + (f_X1_size i4 σ)) v3 _ _ hP hS ls (lv_sub hl [2, 3, 0, 4] rfl) hF
  refine lv_istore_n (lv' := [(3, .int (0 : Int32)), (2, .int (0 : Int32)), (0, .ref (gA G i0)), (1, .int x1)]) hx hb dX7_sizesBut_3 rfl hl (by decide) rfl (fun ls hl => ?_)
  exact J4 fu (0 : Int32) (0 : Int32) _ _ hP hS ls (lv_sub hl [2, 3, 1, 0] rfl) hF
def f_X7_greatestBut_58 (i0 : Nat) (x1 : Int32) (σ : St) (rec7 : Int32 → Int32 → Int32 → Option Int32) (v2 : Int32) (v3 : Int32) (v4 : Int32) : Option Int32 := (rec7 v2 v3 (v4 + (1 : Int32)))
theorem f_X7_greatestBut_58_e {i0 : Nat} {x1 : Int32} {σ : St} {rec7 : Int32 → Int32 → Int32 → Option Int32} {v2 : Int32} {v3 : Int32} {v4 : Int32} : f_X7_greatestBut_58 i0 x1 σ rec7 v2 v3 v4 = (rec7 v2 v3 (v4 + (1 : Int32))) := rfl
def f_X7_greatestBut_7 (i0 : Nat) (x1 : Int32) (σ : St) : Nat → (Int32 → Int32 → Int32 → Option Int32)
  | 0 => fun _ _ _ => none
  | fl + 1 => fun v2 v3 v4 => (if (σ i0 2) ≤ v4 then (some v2) else (ob (f_X7_toldAt i0 v4 σ) (fun q2 => oc q2 ((f_X7_greatestBut_58 i0 x1 σ (f_X7_greatestBut_7 i0 x1 σ fl) v2 v3 v4)) (fun i4 => (if ((x1 >>> (v4 &&& 31)) &&& (1 : Int32)) = 0 then (if (f_X1_size i4 σ) ≤ v3 then f_X7_greatestBut_58 i0 x1 σ (f_X7_greatestBut_7 i0 x1 σ fl) v2 v3 v4 else (f_X7_greatestBut_58 i0 x1 σ (f_X7_greatestBut_7 i0 x1 σ fl) ((1 : Int32) <<< (v4 &&& 31)) (f_X1_size i4 σ) v4)) else f_X7_greatestBut_58 i0 x1 σ (f_X7_greatestBut_7 i0 x1 σ fl) v2 v3 v4)))))
theorem f_X7_greatestBut_7_s {i0 : Nat} {x1 : Int32} {σ : St} (fl : Nat) {v2 : Int32} {v3 : Int32} {v4 : Int32} : f_X7_greatestBut_7 i0 x1 σ (fl + 1) v2 v3 v4 = (if (σ i0 2) ≤ v4 then (some v2) else (ob (f_X7_toldAt i0 v4 σ) (fun q2 => oc q2 ((f_X7_greatestBut_58 i0 x1 σ (f_X7_greatestBut_7 i0 x1 σ fl) v2 v3 v4)) (fun i4 => (if ((x1 >>> (v4 &&& 31)) &&& (1 : Int32)) = 0 then (if (f_X1_size i4 σ) ≤ v3 then f_X7_greatestBut_58 i0 x1 σ (f_X7_greatestBut_7 i0 x1 σ fl) v2 v3 v4 else (f_X7_greatestBut_58 i0 x1 σ (f_X7_greatestBut_7 i0 x1 σ fl) ((1 : Int32) <<< (v4 &&& 31)) (f_X1_size i4 σ) v4)) else f_X7_greatestBut_58 i0 x1 σ (f_X7_greatestBut_7 i0 x1 σ fl) v2 v3 v4))))) := rfl
def f_X7_greatestBut (i0 : Nat) (x1 : Int32) (σ : St) : Option Int32 := (f_X7_greatestBut_7 i0 x1 σ fu (0 : Int32) (0 : Int32) (0 : Int32))
set_option maxRecDepth 100000 in
set_option maxHeartbeats 4000000 in
theorem t_X7_greatestBut (l : Launch) (G : GT) (hG : Dw G) (i0 : Nat) (x1 : Int32) (hk0 : kd i0 = 3) (σ : St) (o : Int32) (hF : f_X7_greatestBut i0 x1 σ = some o) : Ct l G yX7_greatestBut wsX7_greatestBut 2 43 [.ref (gA G i0), .int x1] σ (some (.int o)) σ := by
  refine Met.ofW (cc := cX7_greatestBut) (maxL := 6) (ret := (some .int)) (by decide) rfl ?_
  intro p e s m args below meth c s₁ B hml hv
  obtain ⟨rfl, hP, hK⟩ := hv
  have hx := B.exec
  have hb := B.bytes
  have hr := B.returns
  have hts := atoms_spec (ws := wsX7_greatestBut) B.pre
  have hown : s.vm.findClass RX7 = some m.cls := findClass_of_methodNamed B.named
  have hlocks := B.notSynchronized
  have Z : CallFix p m c cX7_greatestBut 6 s _ wsX7_greatestBut RX7 := ⟨hx, hb, hml, hown, hts⟩
  have hS : va_S (AG G) s.heap s.heap [] := va_S.rf
  have inX7 : ∀ w ∈ u_ws RX7 TX7 4, w ∈ wsX7_greatestBut := by decide +kernel
  have w1 := hts (.fieldLink RX7 22 "AlmanacOfTheYearGone$Year" "deedCount" "I") (by decide +kernel)
  have w2 := hts (.initialized RX1) (by decide +kernel)
  have w3n : va_Nw (.methodLinkNest "AlmanacOfTheYearGone$Year" 87 ⟨"AlmanacOfTheYearGone$Deed", "size", "()I"⟩ "AlmanacOfTheYearGone") s := hK.2 _ (List.mem_of_getElem? (i := 95) rfl)
  have w3 := va_Nw.use (A := [.ref (gA G i0), .int x1].toArray) rfl w3n
  have w4 := hts (.instanceMethod yX1_size) (by decide +kernel)
  have w5 := hts (.selects RX1 yX1_size yX1_size) (by decide +kernel)
  have hl := lv_entry ([.ref (gA G i0), .int x1]) (n := 6) (Nat.le_of_ble_eq_true rfl)
  rw [lg_entry_eq]
  generalize (lg_sl ([.ref (gA G i0), .int x1]) ++ List.replicate (6 - (lg_sl ([.ref (gA G i0), .int x1])).length) Slot.unset).toArray = ls at hl ⊢
  have hl : lv_has ls 6 [(0, .ref (gA G i0)), (1, .int x1)] := hl
  unfold f_X7_greatestBut at hF
  refine lv_iconst (v := 0) hx hb dX7_greatestBut_0 (by decide) ?_
  refine lv_istore_n (lv' := [(2, .int (0 : Int32)), (0, .ref (gA G i0)), (1, .int x1)]) hx hb dX7_greatestBut_1 rfl hl (by decide) rfl (fun ls hl => ?_)
  refine lv_iconst (v := 0) hx hb dX7_greatestBut_2 (by decide) ?_
  refine lv_istore_n (lv' := [(3, .int (0 : Int32)), (2, .int (0 : Int32)), (0, .ref (gA G i0)), (1, .int x1)]) hx hb dX7_greatestBut_3 rfl hl (by decide) rfl (fun ls hl => ?_)
  refine lv_iconst (v := 0) hx hb dX7_greatestBut_4 (by decide) ?_
  have J7 : ∀ (fl : Nat) (v2 : Int32) (v3 : Int32) (v4 : Int32) (H : Heap) (locs : List Loc) (hP : Pw G σ H) (hS : va_S (AG G) s.heap H locs) (ls : Array Slot) (hl : lv_has ls 6 [(0, .ref (gA G i0)), (1, .int x1), (2, .int v2), (3, .int v3), (4, .int v4)]) (hF : f_X7_greatestBut_7 i0 x1 σ fl v2 v3 v4 = some o), W p l e (headSpec wsX7_greatestBut ({ frames := 2, cells := 0, slots := 0, locals := 43 })).room s m ([.ref (gA G i0), .int x1] : List Value).toArray below meth c H locs 0 0 (MQ below (qR G (some (.int o)) σ) ([.ref (gA G i0), .int x1] : List Value).toArray s 0 0 (AG G)) (F0 m 7 ls []) := by
    intro fl7
    induction fl7 with
    | zero => intro v2 v3 v4 H locs hP hS ls hl hF; cases hF
    | succ fl7 ih7 =>
      intro v2 v3 v4 H locs hP hS ls hl hF
      rw [f_X7_greatestBut_7_s] at hF
      refine lv_iload hx hb dX7_greatestBut_7 (lv_at hl 4 rfl) ?_
      refine lv_aload_n hx hb dX7_greatestBut_9 rfl (lv_at hl 0 rfl) ?_
      refine va_get (ci := 3) (C := RX7) (T := TX7) (N := 4) (v := .int (σ i0 2)) hx hb hts inX7 hown hK.1 hP i0 (at_3 hk0) rfl 2 (by decide) w1 (fun _ h9 => h9) rfl dX7_greatestBut_10 ?_
      refine lv_icmp_ge (tgt := 64) hx hb dX7_greatestBut_13 (by decide) (fun c1 => ?_) (fun c1 => ?_)
      · have hF := ite_t c1 hF
        refine lv_iload_n hx hb dX7_greatestBut_64 rfl (lv_at hl 2 rfl) ?_
        exact e_iP hx hb hr hP hS hlocks dX7_greatestBut_65 hF
      · have hF := ite_f c1 hF
        refine lv_aload_n hx hb dX7_greatestBut_16 rfl (lv_at hl 0 rfl) ?_
        refine lv_iload hx hb dX7_greatestBut_17 (lv_at hl 4 rfl) ?_
        obtain ⟨q2, h3, hF⟩ := ob_some hF
        refine k_Vv (As := [.int v4]) (rest := []) Z hK hP hS (t_X7_toldAt l G hG i0 v4 hk0 σ _ h3) (cwV 1 hts gX7_greatestBut_X7_toldAt rfl rfl rfl (by decide +kernel) ⟨Nat.le_of_ble_eq_true rfl, Nat.le_of_ble_eq_true rfl⟩) (at_3 hk0) rfl rfl hl.1 rfl (Nat.le_of_ble_eq_true rfl) ⟨Nat.zero_le _, Nat.zero_le _⟩ dX7_greatestBut_19 (fun H locs hP hS => ?_)
        rcases q2 with _ | i4
        · have hF := oc_n hF
          refine W.eq (g2 := F0 m 22 ls [.null]) rfl ?_
          refine lv_astoreN (lv' := [(5, .null), (0, .ref (gA G i0)), (1, .int x1), (2, .int v2), (3, .int v3), (4, .int v4)]) hx hb dX7_greatestBut_22 hl (by decide) rfl (fun ls hl => ?_)
          refine lv_aloadN hx hb dX7_greatestBut_24 (lv_at hl 0 rfl) ?_
          have J58 : ∀ (v2 : Int32) (v3 : Int32) (v4 : Int32) (H : Heap) (locs : List Loc) (hP : Pw G σ H) (hS : va_S (AG G) s.heap H locs) (ls : Array Slot) (hl : lv_has ls 6 [(0, .ref (gA G i0)), (1, .int x1), (2, .int v2), (3, .int v3), (4, .int v4)]) (hF : f_X7_greatestBut_58 i0 x1 σ (f_X7_greatestBut_7 i0 x1 σ fl7) v2 v3 v4 = some o), W p l e (headSpec wsX7_greatestBut ({ frames := 2, cells := 0, slots := 0, locals := 43 })).room s m ([.ref (gA G i0), .int x1] : List Value).toArray below meth c H locs 0 0 (MQ below (qR G (some (.int o)) σ) ([.ref (gA G i0), .int x1] : List Value).toArray s 0 0 (AG G)) (F0 m 58 ls []) := by
            intro v2 v3 v4 H locs hP hS ls hl hF
            rw [f_X7_greatestBut_58_e] at hF
            refine lv_iinc (v := (v4 + (1 : Int32))) (lv' := [(4, .int (v4 + (1 : Int32))), (0, .ref (gA G i0)), (1, .int x1), (2, .int v2), (3, .int v3)]) hx hb dX7_greatestBut_58 hl (k := 4) rfl rfl (by decide) rfl (fun ls hl => ?_)
            refine lv_goto (tgt := 7) hx hb dX7_greatestBut_61 (by decide) ?_
            exact ih7 v2 v3 (v4 + (1 : Int32)) _ _ hP hS ls (lv_sub hl [1, 2, 3, 4, 0] rfl) hF
          refine lv_ifnullN (tgt := 58) hx hb dX7_greatestBut_26 (by decide) ?_
          exact J58 v2 v3 v4 _ _ hP hS ls (lv_sub hl [1, 2, 3, 4, 5] rfl) hF
        · have hF := oc_s hF
          have ki4 : kd i4 = 1 := q_X7_toldAt hk0 h3
          refine W.eq (g2 := F0 m 22 ls [.ref (gA G i4)]) rfl ?_
          refine lv_astore (lv' := [(5, .ref (gA G i4)), (0, .ref (gA G i0)), (1, .int x1), (2, .int v2), (3, .int v3), (4, .int v4)]) hx hb dX7_greatestBut_22 hl (by decide) rfl (fun ls hl => ?_)
          refine lv_aload hx hb dX7_greatestBut_24 (lv_at hl 0 rfl) ?_
          have J58 : ∀ (v2 : Int32) (v3 : Int32) (v4 : Int32) (H : Heap) (locs : List Loc) (hP : Pw G σ H) (hS : va_S (AG G) s.heap H locs) (ls : Array Slot) (hl : lv_has ls 6 [(0, .ref (gA G i0)), (1, .int x1), (2, .int v2), (3, .int v3), (4, .int v4)]) (hF : f_X7_greatestBut_58 i0 x1 σ (f_X7_greatestBut_7 i0 x1 σ fl7) v2 v3 v4 = some o), W p l e (headSpec wsX7_greatestBut ({ frames := 2, cells := 0, slots := 0, locals := 43 })).room s m ([.ref (gA G i0), .int x1] : List Value).toArray below meth c H locs 0 0 (MQ below (qR G (some (.int o)) σ) ([.ref (gA G i0), .int x1] : List Value).toArray s 0 0 (AG G)) (F0 m 58 ls []) := by
            intro v2 v3 v4 H locs hP hS ls hl hF
            rw [f_X7_greatestBut_58_e] at hF
            refine lv_iinc (v := (v4 + (1 : Int32))) (lv' := [(4, .int (v4 + (1 : Int32))), (0, .ref (gA G i0)), (1, .int x1), (2, .int v2), (3, .int v3)]) hx hb dX7_greatestBut_58 hl (k := 4) rfl rfl (by decide) rfl (fun ls hl => ?_)
            refine lv_goto (tgt := 7) hx hb dX7_greatestBut_61 (by decide) ?_
            exact ih7 v2 v3 (v4 + (1 : Int32)) _ _ hP hS ls (lv_sub hl [1, 2, 3, 4, 0] rfl) hF
          refine lv_ifnull hx hb dX7_greatestBut_26 ?_
          refine lv_iload_n hx hb dX7_greatestBut_29 rfl (lv_at hl 2 rfl) ?_
          refine lv_iload hx hb dX7_greatestBut_30 (lv_at hl 5 rfl) ?_
          refine lv_ishr hx hb dX7_greatestBut_32 ?_
          refine lv_iconst (v := 1) hx hb dX7_greatestBut_33 (by decide) ?_
          refine lv_iand hx hb dX7_greatestBut_34 ?_
          refine lv_if_ne (tgt := 58) hx hb dX7_greatestBut_35 (by decide) (fun c5 => ?_) (fun c5 => ?_)
          · have hF := ite_f c5 hF
            exact J58 v2 v3 v4 _ _ hP hS ls (lv_sub hl [1, 2, 3, 4, 5] rfl) hF
          · have hF := ite_t c5 hF
            refine lv_aload hx hb dX7_greatestBut_38 (lv_at hl 0 rfl) ?_
            refine k_VNv (As := []) (rest := []) Z hK hP hS (t_X1_size l G hG i4 ki4 σ) ⟨va_cnB 0 hts gX7_greatestBut_X1_size_n87 rfl rfl rfl w3n w2 (by decide +kernel) ⟨Nat.le_of_ble_eq_true rfl, Nat.le_of_ble_eq_true rfl⟩, w4, w5⟩ (at_1 ki4) rfl rfl hl.1 rfl (Nat.le_of_ble_eq_true rfl) ⟨Nat.zero_le _, Nat.zero_le _⟩ dX7_greatestBut_40 (fun H locs hP hS => ?_)
            refine lv_iload_n hx hb dX7_greatestBut_43 rfl (lv_at hl 4 rfl) ?_
            refine lv_icmp_le (tgt := 58) hx hb dX7_greatestBut_44 (by decide) (fun c6 => ?_) (fun c6 => ?_)
            · have hF := ite_t c6 hF
              exact J58 v2 v3 v4 _ _ hP hS ls (lv_sub hl [1, 2, 3, 4, 5] rfl) hF
            · have hF := ite_f c6 hF
              refine lv_aload hx hb dX7_greatestBut_47 (lv_at hl 0 rfl) ?_
              refine k_VNv (As := []) (rest := []) Z hK hP hS (t_X1_size l G hG i4 ki4 σ) ⟨va_cnB 0 hts gX7_greatestBut_X1_size_n87 rfl rfl rfl w3n w2 (by decide +kernel) ⟨Nat.le_of_ble_eq_true rfl, Nat.le_of_ble_eq_true rfl⟩, w4, w5⟩ (at_1 ki4) rfl rfl hl.1 rfl (Nat.le_of_ble_eq_true rfl) ⟨Nat.zero_le _, Nat.zero_le _⟩ dX7_greatestBut_49 (fun H locs hP hS => ?_)
              refine lv_istore_n (lv' := [(3, .int (f_X1_size i4 σ)), (5, .ref (gA G i4)), (0, .ref (gA G i0)), (1, .int x1), (2, .int v2), (4, .int v4)]) hx hb dX7_greatestBut_52 rfl hl (by decide) rfl (fun ls hl => ?_)
              refine lv_iconst (v := 1) hx hb dX7_greatestBut_53 (by decide) ?_
              refine lv_iload hx hb dX7_greatestBut_54 (lv_at hl 5 rfl) ?_
              refine lv_ishl hx hb dX7_greatestBut_56 ?_
              refine lv_istore_n (lv' := [(2, .int ((1 : Int32) <<< (v4 &&& 31))), (3, .int (f_X1_size i4 σ)), (5, .ref (gA G i4)), (0, .ref (gA G i0)), (1, .int x1), (4, .int v4)]) hx hb dX7_greatestBut_57 rfl hl (by decide) rfl (fun ls hl => ?_)
              exact J58 ((1 : Int32) <<< (v4 &&& 31)) (f_X1_size i4 σ) v4 _ _ hP hS ls (lv_sub hl [3, 4, 0, 1, 5] rfl) hF
  refine lv_istore (lv' := [(4, .int (0 : Int32)), (3, .int (0 : Int32)), (2, .int (0 : Int32)), (0, .ref (gA G i0)), (1, .int x1)]) hx hb dX7_greatestBut_5 hl (by decide) rfl (fun ls hl => ?_)
  exact J7 fu (0 : Int32) (0 : Int32) (0 : Int32) _ _ hP hS ls (lv_sub hl [3, 4, 2, 1, 0] rfl) hF
def f_X7_allLasting_31 (i0 : Nat) (σ : St) (rec4 : Int32 → Int32 → Option Int32) (v2 : Int32) (z0 : Int32) (z1 : Int32) : Option Int32 := (rec4 (z0 + z1) (v2 + (1 : Int32)))
theorem f_X7_allLasting_31_e {i0 : Nat} {σ : St} {rec4 : Int32 → Int32 → Option Int32} {v2 : Int32} {z0 : Int32} {z1 : Int32} : f_X7_allLasting_31 i0 σ rec4 v2 z0 z1 = (rec4 (z0 + z1) (v2 + (1 : Int32))) := rfl
def f_X7_allLasting_4 (i0 : Nat) (σ : St) : Nat → (Int32 → Int32 → Option Int32)
  | 0 => fun _ _ => none
  | fl + 1 => fun v1 v2 => (if (σ i0 2) ≤ v2 then (some v1) else (ob (f_X7_deedAt i0 v2 σ) (fun q2 => oc q2 ((f_X7_allLasting_31 i0 σ (f_X7_allLasting_4 i0 σ fl) v2 v1 (0 : Int32))) (fun i4 => (f_X7_allLasting_31 i0 σ (f_X7_allLasting_4 i0 σ fl) v2 v1 (σ i4 5))))))
theorem f_X7_allLasting_4_s {i0 : Nat} {σ : St} (fl : Nat) {v1 : Int32} {v2 : Int32} : f_X7_allLasting_4 i0 σ (fl + 1) v1 v2 = (if (σ i0 2) ≤ v2 then (some v1) else (ob (f_X7_deedAt i0 v2 σ) (fun q2 => oc q2 ((f_X7_allLasting_31 i0 σ (f_X7_allLasting_4 i0 σ fl) v2 v1 (0 : Int32))) (fun i4 => (f_X7_allLasting_31 i0 σ (f_X7_allLasting_4 i0 σ fl) v2 v1 (σ i4 5)))))) := rfl
def f_X7_allLasting (i0 : Nat) (σ : St) : Option Int32 := (f_X7_allLasting_4 i0 σ fu (0 : Int32) (0 : Int32))
set_option maxRecDepth 100000 in
set_option maxHeartbeats 4000000 in
theorem t_X7_allLasting (l : Launch) (G : GT) (hG : Dw G) (i0 : Nat) (hk0 : kd i0 = 3) (σ : St) (o : Int32) (hF : f_X7_allLasting i0 σ = some o) : Ct l G yX7_allLasting wsX7_allLasting 1 21 [.ref (gA G i0)] σ (some (.int o)) σ := by
  refine Met.ofW (cc := cX7_allLasting) (maxL := 4) (ret := (some .int)) (by decide) rfl ?_
  intro p e s m args below meth c s₁ B hml hv
  obtain ⟨rfl, hP, hK⟩ := hv
  have hx := B.exec
  have hb := B.bytes
  have hr := B.returns
  have hts := atoms_spec (ws := wsX7_allLasting) B.pre
  have hown : s.vm.findClass RX7 = some m.cls := findClass_of_methodNamed B.named
  have hlocks := B.notSynchronized
  have Z : CallFix p m c cX7_allLasting 4 s _ wsX7_allLasting RX7 := ⟨hx, hb, hml, hown, hts⟩
  have hS : va_S (AG G) s.heap s.heap [] := va_S.rf
  have inX7 : ∀ w ∈ u_ws RX7 TX7 4, w ∈ wsX7_allLasting := by decide +kernel
  have inX1 : ∀ w ∈ u_ws RX1 TX1 7, w ∈ wsX7_allLasting := by decide +kernel
  have w1 := hts (.fieldLink RX7 22 "AlmanacOfTheYearGone$Year" "deedCount" "I") (by decide +kernel)
  have w2n : va_Nw (.fieldLinkNest "AlmanacOfTheYearGone$Year" 90 "AlmanacOfTheYearGone$Deed" "lasting" "I" "AlmanacOfTheYearGone") s := hK.2 _ (List.mem_of_getElem? (i := 23) rfl)
  have w2 := va_Nw.use (A := [.ref (gA G i0)].toArray) rfl w2n
  have hl := lv_entry ([.ref (gA G i0)]) (n := 4) (Nat.le_of_ble_eq_true rfl)
  rw [lg_entry_eq]
  generalize (lg_sl ([.ref (gA G i0)]) ++ List.replicate (4 - (lg_sl ([.ref (gA G i0)])).length) Slot.unset).toArray = ls at hl ⊢
  have hl : lv_has ls 4 [(0, .ref (gA G i0))] := hl
  unfold f_X7_allLasting at hF
  refine lv_iconst (v := 0) hx hb dX7_allLasting_0 (by decide) ?_
  refine lv_istore_n (lv' := [(1, .int (0 : Int32)), (0, .ref (gA G i0))]) hx hb dX7_allLasting_1 rfl hl (by decide) rfl (fun ls hl => ?_)
  refine lv_iconst (v := 0) hx hb dX7_allLasting_2 (by decide) ?_
  have J4 : ∀ (fl : Nat) (v1 : Int32) (v2 : Int32) (H : Heap) (locs : List Loc) (hP : Pw G σ H) (hS : va_S (AG G) s.heap H locs) (ls : Array Slot) (hl : lv_has ls 4 [(0, .ref (gA G i0)), (1, .int v1), (2, .int v2)]) (hF : f_X7_allLasting_4 i0 σ fl v1 v2 = some o), W p l e (headSpec wsX7_allLasting ({ frames := 1, cells := 0, slots := 0, locals := 21 })).room s m ([.ref (gA G i0)] : List Value).toArray below meth c H locs 0 0 (MQ below (qR G (some (.int o)) σ) ([.ref (gA G i0)] : List Value).toArray s 0 0 (AG G)) (F0 m 4 ls []) := by
    intro fl4
    induction fl4 with
    | zero => intro v1 v2 H locs hP hS ls hl hF; cases hF
    | succ fl4 ih4 =>
      intro v1 v2 H locs hP hS ls hl hF
      rw [f_X7_allLasting_4_s] at hF
      refine lv_iload_n hx hb dX7_allLasting_4 rfl (lv_at hl 2 rfl) ?_
      refine lv_aload_n hx hb dX7_allLasting_5 rfl (lv_at hl 0 rfl) ?_
      refine va_get (ci := 3) (C := RX7) (T := TX7) (N := 4) (v := .int (σ i0 2)) hx hb hts inX7 hown hK.1 hP i0 (at_3 hk0) rfl 2 (by decide) w1 (fun _ h9 => h9) rfl dX7_allLasting_6 ?_
      refine lv_icmp_ge (tgt := 39) hx hb dX7_allLasting_9 (by decide) (fun c1 => ?_) (fun c1 => ?_)
      · have hF := ite_t c1 hF
        refine lv_iload_n hx hb dX7_allLasting_39 rfl (lv_at hl 1 rfl) ?_
        exact e_iP hx hb hr hP hS hlocks dX7_allLasting_40 hF
      · have hF := ite_f c1 hF
        refine lv_aload_n hx hb dX7_allLasting_12 rfl (lv_at hl 0 rfl) ?_
        refine lv_iload_n hx hb dX7_allLasting_13 rfl (lv_at hl 2 rfl) ?_
        obtain ⟨q2, h3, hF⟩ := ob_some hF
        refine k_Vv (As := [.int v2]) (rest := []) Z hK hP hS (t_X7_deedAt l G hG i0 v2 hk0 σ _ h3) (cwV 1 hts gX7_allLasting_X7_deedAt rfl rfl rfl (by decide +kernel) ⟨Nat.le_of_ble_eq_true rfl, Nat.le_of_ble_eq_true rfl⟩) (at_3 hk0) rfl rfl hl.1 rfl (Nat.le_of_ble_eq_true rfl) ⟨Nat.zero_le _, Nat.zero_le _⟩ dX7_allLasting_14 (fun H locs hP hS => ?_)
        rcases q2 with _ | i4
        · have hF := oc_n hF
          refine W.eq (g2 := F0 m 17 ls [.null]) rfl ?_
          refine lv_astore_nN (lv' := [(3, .null), (0, .ref (gA G i0)), (1, .int v1), (2, .int v2)]) hx hb dX7_allLasting_17 rfl hl (by decide) rfl (fun ls hl => ?_)
          refine lv_iload_n hx hb dX7_allLasting_18 rfl (lv_at hl 2 rfl) ?_
          refine lv_aload_nN hx hb dX7_allLasting_19 rfl (lv_at hl 0 rfl) ?_
          have J31 : ∀ (v2 : Int32) (z0 : Int32) (z1 : Int32) (H : Heap) (locs : List Loc) (hP : Pw G σ H) (hS : va_S (AG G) s.heap H locs) (ls : Array Slot) (hl : lv_has ls 4 [(0, .ref (gA G i0)), (2, .int v2)]) (hF : f_X7_allLasting_31 i0 σ (f_X7_allLasting_4 i0 σ fl4) v2 z0 z1 = some o), W p l e (headSpec wsX7_allLasting ({ frames := 1, cells := 0, slots := 0, locals := 21 })).room s m ([.ref (gA G i0)] : List Value).toArray below meth c H locs 0 0 (MQ below (qR G (some (.int o)) σ) ([.ref (gA G i0)] : List Value).toArray s 0 0 (AG G)) (F0 m 31 ls [.int z1, .int z0]) := by
            intro v2 z0 z1 H locs hP hS ls hl hF
            rw [f_X7_allLasting_31_e] at hF
            refine lv_iadd hx hb dX7_allLasting_31 ?_
            refine lv_istore_n (lv' := [(1, .int (z0 + z1)), (0, .ref (gA G i0)), (2, .int v2)]) hx hb dX7_allLasting_32 rfl hl (by decide) rfl (fun ls hl => ?_)
            refine lv_iinc (v := (v2 + (1 : Int32))) (lv' := [(2, .int (v2 + (1 : Int32))), (1, .int (z0 + z1)), (0, .ref (gA G i0))]) hx hb dX7_allLasting_33 hl (k := 2) rfl rfl (by decide) rfl (fun ls hl => ?_)
            refine lv_goto (tgt := 4) hx hb dX7_allLasting_36 (by decide) ?_
            exact ih4 (z0 + z1) (v2 + (1 : Int32)) _ _ hP hS ls (lv_sub hl [2, 1, 0] rfl) hF
          refine lv_ifnullN (tgt := 30) hx hb dX7_allLasting_20 (by decide) ?_
          refine lv_iconst (v := 0) hx hb dX7_allLasting_30 (by decide) ?_
          exact J31 v2 v1 (0 : Int32) _ _ hP hS ls (lv_sub hl [1, 3] rfl) hF
        · have hF := oc_s hF
          have ki4 : kd i4 = 1 := q_X7_deedAt hk0 h3
          refine W.eq (g2 := F0 m 17 ls [.ref (gA G i4)]) rfl ?_
          refine lv_astore_n (lv' := [(3, .ref (gA G i4)), (0, .ref (gA G i0)), (1, .int v1), (2, .int v2)]) hx hb dX7_allLasting_17 rfl hl (by decide) rfl (fun ls hl => ?_)
          refine lv_iload_n hx hb dX7_allLasting_18 rfl (lv_at hl 2 rfl) ?_
          refine lv_aload_n hx hb dX7_allLasting_19 rfl (lv_at hl 0 rfl) ?_
          have J31 : ∀ (v2 : Int32) (z0 : Int32) (z1 : Int32) (H : Heap) (locs : List Loc) (hP : Pw G σ H) (hS : va_S (AG G) s.heap H locs) (ls : Array Slot) (hl : lv_has ls 4 [(0, .ref (gA G i0)), (2, .int v2)]) (hF : f_X7_allLasting_31 i0 σ (f_X7_allLasting_4 i0 σ fl4) v2 z0 z1 = some o), W p l e (headSpec wsX7_allLasting ({ frames := 1, cells := 0, slots := 0, locals := 21 })).room s m ([.ref (gA G i0)] : List Value).toArray below meth c H locs 0 0 (MQ below (qR G (some (.int o)) σ) ([.ref (gA G i0)] : List Value).toArray s 0 0 (AG G)) (F0 m 31 ls [.int z1, .int z0]) := by
            intro v2 z0 z1 H locs hP hS ls hl hF
            rw [f_X7_allLasting_31_e] at hF
            refine lv_iadd hx hb dX7_allLasting_31 ?_
            refine lv_istore_n (lv' := [(1, .int (z0 + z1)), (0, .ref (gA G i0)), (2, .int v2)]) hx hb dX7_allLasting_32 rfl hl (by decide) rfl (fun ls hl => ?_)
            refine lv_iinc (v := (v2 + (1 : Int32))) (lv' := [(2, .int (v2 + (1 : Int32))), (1, .int (z0 + z1)), (0, .ref (gA G i0))]) hx hb dX7_allLasting_33 hl (k := 2) rfl rfl (by decide) rfl (fun ls hl => ?_)
            refine lv_goto (tgt := 4) hx hb dX7_allLasting_36 (by decide) ?_
            exact ih4 (z0 + z1) (v2 + (1 : Int32)) _ _ hP hS ls (lv_sub hl [2, 1, 0] rfl) hF
          refine lv_ifnull hx hb dX7_allLasting_20 ?_
          refine lv_aload_n hx hb dX7_allLasting_23 rfl (lv_at hl 0 rfl) ?_
          refine va_getN (ci := 1) (C := RX1) (T := TX1) (N := 7) (v := .int (σ i4 5)) hx hb hts inX1 hown hK.1 hP i4 (at_1 ki4) rfl 5 (by decide) w2 (fun _ h9 => h9) rfl dX7_allLasting_24 ?_
          refine lv_goto (tgt := 31) hx hb dX7_allLasting_27 (by decide) ?_
          exact J31 v2 v1 (σ i4 5) _ _ hP hS ls (lv_sub hl [1, 3] rfl) hF
  refine lv_istore_n (lv' := [(2, .int (0 : Int32)), (1, .int (0 : Int32)), (0, .ref (gA G i0))]) hx hb dX7_allLasting_3 rfl hl (by decide) rfl (fun ls hl => ?_)
  exact J4 fu (0 : Int32) (0 : Int32) _ _ hP hS ls (lv_sub hl [2, 1, 0] rfl) hF
def f_X7_allSeen_34 (i0 : Nat) (σ : St) (rec4 : Int32 → Int32 → Option Int32) (v2 : Int32) (z0 : Int32) (z1 : Int32) : Option Int32 := (rec4 (z0 + z1) (v2 + (1 : Int32)))
theorem f_X7_allSeen_34_e {i0 : Nat} {σ : St} {rec4 : Int32 → Int32 → Option Int32} {v2 : Int32} {z0 : Int32} {z1 : Int32} : f_X7_allSeen_34 i0 σ rec4 v2 z0 z1 = (rec4 (z0 + z1) (v2 + (1 : Int32))) := rfl
def f_X7_allSeen_4 (i0 : Nat) (σ : St) : Nat → (Int32 → Int32 → Option Int32)
  | 0 => fun _ _ => none
  | fl + 1 => fun v1 v2 => (if (σ i0 2) ≤ v2 then (some v1) else (ob (f_X7_deedAt i0 v2 σ) (fun q2 => oc q2 ((f_X7_allSeen_34 i0 σ (f_X7_allSeen_4 i0 σ fl) v2 v1 (0 : Int32))) (fun i4 => (f_X7_allSeen_34 i0 σ (f_X7_allSeen_4 i0 σ fl) v2 v1 (f_J6_bitCount_0f7a4 (σ i4 4)))))))
theorem f_X7_allSeen_4_s {i0 : Nat} {σ : St} (fl : Nat) {v1 : Int32} {v2 : Int32} : f_X7_allSeen_4 i0 σ (fl + 1) v1 v2 = (if (σ i0 2) ≤ v2 then (some v1) else (ob (f_X7_deedAt i0 v2 σ) (fun q2 => oc q2 ((f_X7_allSeen_34 i0 σ (f_X7_allSeen_4 i0 σ fl) v2 v1 (0 : Int32))) (fun i4 => (f_X7_allSeen_34 i0 σ (f_X7_allSeen_4 i0 σ fl) v2 v1 (f_J6_bitCount_0f7a4 (σ i4 4))))))) := rfl
def f_X7_allSeen (i0 : Nat) (σ : St) : Option Int32 := (f_X7_allSeen_4 i0 σ fu (0 : Int32) (0 : Int32))
set_option maxRecDepth 100000 in
set_option maxHeartbeats 4000000 in
theorem t_X7_allSeen (l : Launch) (G : GT) (hG : Dw G) (i0 : Nat) (hk0 : kd i0 = 3) (σ : St) (o : Int32) (hF : f_X7_allSeen i0 σ = some o) : Ct l G yX7_allSeen wsX7_allSeen 1 21 [.ref (gA G i0)] σ (some (.int o)) σ := by
  refine Met.ofW (cc := cX7_allSeen) (maxL := 4) (ret := (some .int)) (by decide) rfl ?_
  intro p e s m args below meth c s₁ B hml hv
  obtain ⟨rfl, hP, hK⟩ := hv
  have hx := B.exec
  have hb := B.bytes
  have hr := B.returns
  have hts := atoms_spec (ws := wsX7_allSeen) B.pre
  have hown : s.vm.findClass RX7 = some m.cls := findClass_of_methodNamed B.named
  have hlocks := B.notSynchronized
  have Z : CallFix p m c cX7_allSeen 4 s _ wsX7_allSeen RX7 := ⟨hx, hb, hml, hown, hts⟩
  have hS : va_S (AG G) s.heap s.heap [] := va_S.rf
  have inX7 : ∀ w ∈ u_ws RX7 TX7 4, w ∈ wsX7_allSeen := by decide +kernel
  have inX1 : ∀ w ∈ u_ws RX1 TX1 7, w ∈ wsX7_allSeen := by decide +kernel
  have w1 := hts (.fieldLink RX7 22 "AlmanacOfTheYearGone$Year" "deedCount" "I") (by decide +kernel)
  have w2n : va_Nw (.fieldLinkNest "AlmanacOfTheYearGone$Year" 43 "AlmanacOfTheYearGone$Deed" "seen" "I" "AlmanacOfTheYearGone") s := hK.2 _ (List.mem_of_getElem? (i := 20) rfl)
  have w2 := va_Nw.use (A := [.ref (gA G i0)].toArray) rfl w2n
  have hl := lv_entry ([.ref (gA G i0)]) (n := 4) (Nat.le_of_ble_eq_true rfl)
  rw [lg_entry_eq]
  generalize (lg_sl ([.ref (gA G i0)]) ++ List.replicate (4 - (lg_sl ([.ref (gA G i0)])).length) Slot.unset).toArray = ls at hl ⊢
  have hl : lv_has ls 4 [(0, .ref (gA G i0))] := hl
  unfold f_X7_allSeen at hF
  refine lv_iconst (v := 0) hx hb dX7_allSeen_0 (by decide) ?_
  refine lv_istore_n (lv' := [(1, .int (0 : Int32)), (0, .ref (gA G i0))]) hx hb dX7_allSeen_1 rfl hl (by decide) rfl (fun ls hl => ?_)
  refine lv_iconst (v := 0) hx hb dX7_allSeen_2 (by decide) ?_
  have J4 : ∀ (fl : Nat) (v1 : Int32) (v2 : Int32) (H : Heap) (locs : List Loc) (hP : Pw G σ H) (hS : va_S (AG G) s.heap H locs) (ls : Array Slot) (hl : lv_has ls 4 [(0, .ref (gA G i0)), (1, .int v1), (2, .int v2)]) (hF : f_X7_allSeen_4 i0 σ fl v1 v2 = some o), W p l e (headSpec wsX7_allSeen ({ frames := 1, cells := 0, slots := 0, locals := 21 })).room s m ([.ref (gA G i0)] : List Value).toArray below meth c H locs 0 0 (MQ below (qR G (some (.int o)) σ) ([.ref (gA G i0)] : List Value).toArray s 0 0 (AG G)) (F0 m 4 ls []) := by
    intro fl4
    induction fl4 with
    | zero => intro v1 v2 H locs hP hS ls hl hF; cases hF
    | succ fl4 ih4 =>
      intro v1 v2 H locs hP hS ls hl hF
      rw [f_X7_allSeen_4_s] at hF
      refine lv_iload_n hx hb dX7_allSeen_4 rfl (lv_at hl 2 rfl) ?_
      refine lv_aload_n hx hb dX7_allSeen_5 rfl (lv_at hl 0 rfl) ?_
      refine va_get (ci := 3) (C := RX7) (T := TX7) (N := 4) (v := .int (σ i0 2)) hx hb hts inX7 hown hK.1 hP i0 (at_3 hk0) rfl 2 (by decide) w1 (fun _ h9 => h9) rfl dX7_allSeen_6 ?_
      refine lv_icmp_ge (tgt := 42) hx hb dX7_allSeen_9 (by decide) (fun c1 => ?_) (fun c1 => ?_)
      · have hF := ite_t c1 hF
        refine lv_iload_n hx hb dX7_allSeen_42 rfl (lv_at hl 1 rfl) ?_
        exact e_iP hx hb hr hP hS hlocks dX7_allSeen_43 hF
      · have hF := ite_f c1 hF
        refine lv_aload_n hx hb dX7_allSeen_12 rfl (lv_at hl 0 rfl) ?_
        refine lv_iload_n hx hb dX7_allSeen_13 rfl (lv_at hl 2 rfl) ?_
        obtain ⟨q2, h3, hF⟩ := ob_some hF
        refine k_Vv (As := [.int v2]) (rest := []) Z hK hP hS (t_X7_deedAt l G hG i0 v2 hk0 σ _ h3) (cwV 1 hts gX7_allSeen_X7_deedAt rfl rfl rfl (by decide +kernel) ⟨Nat.le_of_ble_eq_true rfl, Nat.le_of_ble_eq_true rfl⟩) (at_3 hk0) rfl rfl hl.1 rfl (Nat.le_of_ble_eq_true rfl) ⟨Nat.zero_le _, Nat.zero_le _⟩ dX7_allSeen_14 (fun H locs hP hS => ?_)
        rcases q2 with _ | i4
        · have hF := oc_n hF
          refine W.eq (g2 := F0 m 17 ls [.null]) rfl ?_
          refine lv_astore_nN (lv' := [(3, .null), (0, .ref (gA G i0)), (1, .int v1), (2, .int v2)]) hx hb dX7_allSeen_17 rfl hl (by decide) rfl (fun ls hl => ?_)
          refine lv_iload_n hx hb dX7_allSeen_18 rfl (lv_at hl 2 rfl) ?_
          refine lv_aload_nN hx hb dX7_allSeen_19 rfl (lv_at hl 0 rfl) ?_
          have J34 : ∀ (v2 : Int32) (z0 : Int32) (z1 : Int32) (H : Heap) (locs : List Loc) (hP : Pw G σ H) (hS : va_S (AG G) s.heap H locs) (ls : Array Slot) (hl : lv_has ls 4 [(0, .ref (gA G i0)), (2, .int v2)]) (hF : f_X7_allSeen_34 i0 σ (f_X7_allSeen_4 i0 σ fl4) v2 z0 z1 = some o), W p l e (headSpec wsX7_allSeen ({ frames := 1, cells := 0, slots := 0, locals := 21 })).room s m ([.ref (gA G i0)] : List Value).toArray below meth c H locs 0 0 (MQ below (qR G (some (.int o)) σ) ([.ref (gA G i0)] : List Value).toArray s 0 0 (AG G)) (F0 m 34 ls [.int z1, .int z0]) := by
            intro v2 z0 z1 H locs hP hS ls hl hF
            rw [f_X7_allSeen_34_e] at hF
            refine lv_iadd hx hb dX7_allSeen_34 ?_
            refine lv_istore_n (lv' := [(1, .int (z0 + z1)), (0, .ref (gA G i0)), (2, .int v2)]) hx hb dX7_allSeen_35 rfl hl (by decide) rfl (fun ls hl => ?_)
            refine lv_iinc (v := (v2 + (1 : Int32))) (lv' := [(2, .int (v2 + (1 : Int32))), (1, .int (z0 + z1)), (0, .ref (gA G i0))]) hx hb dX7_allSeen_36 hl (k := 2) rfl rfl (by decide) rfl (fun ls hl => ?_)
            refine lv_goto (tgt := 4) hx hb dX7_allSeen_39 (by decide) ?_
            exact ih4 (z0 + z1) (v2 + (1 : Int32)) _ _ hP hS ls (lv_sub hl [2, 1, 0] rfl) hF
          refine lv_ifnullN (tgt := 33) hx hb dX7_allSeen_20 (by decide) ?_
          refine lv_iconst (v := 0) hx hb dX7_allSeen_33 (by decide) ?_
          exact J34 v2 v1 (0 : Int32) _ _ hP hS ls (lv_sub hl [1, 3] rfl) hF
        · have hF := oc_s hF
          have ki4 : kd i4 = 1 := q_X7_deedAt hk0 h3
          refine W.eq (g2 := F0 m 17 ls [.ref (gA G i4)]) rfl ?_
          refine lv_astore_n (lv' := [(3, .ref (gA G i4)), (0, .ref (gA G i0)), (1, .int v1), (2, .int v2)]) hx hb dX7_allSeen_17 rfl hl (by decide) rfl (fun ls hl => ?_)
          refine lv_iload_n hx hb dX7_allSeen_18 rfl (lv_at hl 2 rfl) ?_
          refine lv_aload_n hx hb dX7_allSeen_19 rfl (lv_at hl 0 rfl) ?_
          have J34 : ∀ (v2 : Int32) (z0 : Int32) (z1 : Int32) (H : Heap) (locs : List Loc) (hP : Pw G σ H) (hS : va_S (AG G) s.heap H locs) (ls : Array Slot) (hl : lv_has ls 4 [(0, .ref (gA G i0)), (2, .int v2)]) (hF : f_X7_allSeen_34 i0 σ (f_X7_allSeen_4 i0 σ fl4) v2 z0 z1 = some o), W p l e (headSpec wsX7_allSeen ({ frames := 1, cells := 0, slots := 0, locals := 21 })).room s m ([.ref (gA G i0)] : List Value).toArray below meth c H locs 0 0 (MQ below (qR G (some (.int o)) σ) ([.ref (gA G i0)] : List Value).toArray s 0 0 (AG G)) (F0 m 34 ls [.int z1, .int z0]) := by
            intro v2 z0 z1 H locs hP hS ls hl hF
            rw [f_X7_allSeen_34_e] at hF
            refine lv_iadd hx hb dX7_allSeen_34 ?_
            refine lv_istore_n (lv' := [(1, .int (z0 + z1)), (0, .ref (gA G i0)), (2, .int v2)]) hx hb dX7_allSeen_35 rfl hl (by decide) rfl (fun ls hl => ?_)
            refine lv_iinc (v := (v2 + (1 : Int32))) (lv' := [(2, .int (v2 + (1 : Int32))), (1, .int (z0 + z1)), (0, .ref (gA G i0))]) hx hb dX7_allSeen_36 hl (k := 2) rfl rfl (by decide) rfl (fun ls hl => ?_)
            refine lv_goto (tgt := 4) hx hb dX7_allSeen_39 (by decide) ?_
            exact ih4 (z0 + z1) (v2 + (1 : Int32)) _ _ hP hS ls (lv_sub hl [2, 1, 0] rfl) hF
          refine lv_ifnull hx hb dX7_allSeen_20 ?_
          refine lv_aload_n hx hb dX7_allSeen_23 rfl (lv_at hl 0 rfl) ?_
          refine va_getN (ci := 1) (C := RX1) (T := TX1) (N := 7) (v := .int (σ i4 4)) hx hb hts inX1 hown hK.1 hP i4 (at_1 ki4) rfl 4 (by decide) w2 (fun _ h9 => h9) rfl dX7_allSeen_24 ?_
          refine k_Sv (As := [.int (σ i4 4)]) (rest := [.int v1]) Z hK hP hS (t_J6_bitCount_0f7a4 l G hG (σ i4 4) σ) (va_cwS 1 hts gX7_allSeen_J6_bitCount_0f7a4 rfl rfl rfl (by decide +kernel) ⟨Nat.le_of_ble_eq_true rfl, Nat.le_of_ble_eq_true rfl⟩) rfl hl.1 rfl (Nat.le_of_ble_eq_true rfl) ⟨Nat.zero_le _, Nat.zero_le _⟩ dX7_allSeen_27 (fun H locs hP hS => ?_)
          refine lv_goto (tgt := 34) hx hb dX7_allSeen_30 (by decide) ?_
          exact J34 v2 v1 (f_J6_bitCount_0f7a4 (σ i4 4)) _ _ hP hS ls (lv_sub hl [1, 3] rfl) hF
  refine lv_istore_n (lv' := [(2, .int (0 : Int32)), (1, .int (0 : Int32)), (0, .ref (gA G i0))]) hx hb dX7_allSeen_3 rfl hl (by decide) rfl (fun ls hl => ?_)
  exact J4 fu (0 : Int32) (0 : Int32) _ _ hP hS ls (lv_sub hl [2, 1, 0] rfl) hF
def f_X0_numberIn (x1 : Int32) (σ : St) : Option Int32 := (if x1 < 0 then (some (-4 : Int32)) else (if (σ 18 3) ≤ x1 then (some (-4 : Int32)) else (if (10 : Int32) ≤ x1 then (some (-4 : Int32)) else (if inb x1 10 then some (σ 19 x1.toNatClampNeg) else none))))
set_option maxRecDepth 100000 in
set_option maxHeartbeats 4000000 in
theorem t_X0_numberIn (l : Launch) (G : GT) (hG : Dw G) (x1 : Int32) (σ : St) (o : Int32) (hF : f_X0_numberIn x1 σ = some o) : Ct l G yX0_numberIn wsX0_numberIn 0 0 [.ref (gA G 18), .int x1] σ (some (.int o)) σ := by
  refine Met.ofW (cc := cX0_numberIn) (maxL := 2) (ret := (some .int)) (by decide) rfl ?_
  intro p e s m args below meth c s₁ B hml hv
  obtain ⟨rfl, hP, hK⟩ := hv
  have hx := B.exec
  have hb := B.bytes
  have hr := B.returns
  have hts := atoms_spec (ws := wsX0_numberIn) B.pre
  have hown : s.vm.findClass RX0 = some m.cls := findClass_of_methodNamed B.named
  have hlocks := B.notSynchronized
  have Z : CallFix p m c cX0_numberIn 2 s _ wsX0_numberIn RX0 := ⟨hx, hb, hml, hown, hts⟩
  have hS : va_S (AG G) s.heap s.heap [] := va_S.rf
  have inX0 : ∀ w ∈ u_ws RX0 TX0 5, w ∈ wsX0_numberIn := by decide +kernel
  have w1 := hts (.fieldLink RX0 25 "AlmanacOfTheYearGone$Almanac" "printed" "I") (by decide +kernel)
  have w2 := hts (.fieldLink RX0 18 "AlmanacOfTheYearGone$Almanac" "order" "[I") (by decide +kernel)
  have hl := lv_entry ([.ref (gA G 18), .int x1]) (n := 2) (Nat.le_of_ble_eq_true rfl)
  rw [lg_entry_eq]
  generalize (lg_sl ([.ref (gA G 18), .int x1]) ++ List.replicate (2 - (lg_sl ([.ref (gA G 18), .int x1])).length) Slot.unset).toArray = ls at hl ⊢
  have hl : lv_has ls 2 [(0, .ref (gA G 18)), (1, .int x1)] := hl
  unfold f_X0_numberIn at hF
  refine lv_iload_n hx hb dX0_numberIn_0 rfl (lv_at hl 1 rfl) ?_
  refine lv_if_lt (tgt := 30) hx hb dX0_numberIn_1 (by decide) (fun c1 => ?_) (fun c1 => ?_)
  · have hF := ite_t c1 hF
    refine lv_bipush (v := -4) hx hb dX0_numberIn_30 (by decide) ?_
    exact e_iP hx hb hr hP hS hlocks dX0_numberIn_32 hF
  · have hF := ite_f c1 hF
    refine lv_iload_n hx hb dX0_numberIn_4 rfl (lv_at hl 1 rfl) ?_
    refine lv_aload_n hx hb dX0_numberIn_5 rfl (lv_at hl 0 rfl) ?_
    refine va_get (ci := 0) (C := RX0) (T := TX0) (N := 5) (v := .int (σ 18 3)) hx hb hts inX0 hown hK.1 hP 18 (at_0 rfl) rfl 3 (by decide) w1 (fun _ h9 => h9) rfl dX0_numberIn_6 ?_
    refine lv_icmp_ge (tgt := 30) hx hb dX0_numberIn_9 (by decide) (fun c2 => ?_) (fun c2 => ?_)
    · have hF := ite_t c2 hF
      refine lv_bipush (v := -4) hx hb dX0_numberIn_30 (by decide) ?_
      exact e_iP hx hb hr hP hS hlocks dX0_numberIn_32 hF
    · have hF := ite_f c2 hF
      refine lv_iload_n hx hb dX0_numberIn_12 rfl (lv_at hl 1 rfl) ?_
      refine lv_aload_n hx hb dX0_numberIn_13 rfl (lv_at hl 0 rfl) ?_
      refine va_get (ci := 0) (C := RX0) (T := TX0) (N := 5) (v := .ref (gA G 19)) hx hb hts inX0 hown hK.1 hP 18 (at_0 rfl) rfl 1 (by decide) w2 (fun _ h9 => h9) rfl dX0_numberIn_14 ?_
      refine va_alen (v := 10) hx hb hK.1 hP 19 0 (at_6 (rfl : kd 19 = 6) (rfl : ln 19 = 10)) rfl rfl dX0_numberIn_17 ?_
      refine lv_icmp_ge (tgt := 30) hx hb dX0_numberIn_18 (by decide) (fun c3 => ?_) (fun c3 => ?_)
      · have hF := ite_t c3 hF
        refine lv_bipush (v := -4) hx hb dX0_numberIn_30 (by decide) ?_
        exact e_iP hx hb hr hP hS hlocks dX0_numberIn_32 hF
      · have hF := ite_f c3 hF
        refine lv_aload_n hx hb dX0_numberIn_21 rfl (lv_at hl 0 rfl) ?_
        refine va_get (ci := 0) (C := RX0) (T := TX0) (N := 5) (v := .ref (gA G 19)) hx hb hts inX0 hown hK.1 hP 18 (at_0 rfl) rfl 1 (by decide) w2 (fun _ h9 => h9) rfl dX0_numberIn_22 ?_
        refine lv_iload_n hx hb dX0_numberIn_25 rfl (lv_at hl 1 rfl) ?_
        obtain ⟨b4, hF⟩ := ite_some hF
        refine va_iald hx hb hK.1 hP 19 0 (at_6 (rfl : kd 19 = 6) (rfl : ln 19 = 10)) rfl (inb_in b4) dX0_numberIn_26 ?_
        refine lv_goto (tgt := 32) hx hb dX0_numberIn_27 (by decide) ?_
        exact e_iP hx hb hr hP hS hlocks dX0_numberIn_32 hF
def f_X0_deedIn (x1 : Int32) (σ : St) : Option (Option Nat) := (ob (f_X0_numberIn x1 σ) (fun q1 => ob (f_X7_deedAt 21 q1 σ) (fun q3 => oc q3 ((some none)) (fun i5 => (some (some i5))))))
set_option maxRecDepth 100000 in
set_option maxHeartbeats 4000000 in
theorem t_X0_deedIn (l : Launch) (G : GT) (hG : Dw G) (x1 : Int32) (σ : St) (o : Option Nat) (hF : f_X0_deedIn x1 σ = some o) : Ct l G yX0_deedIn wsX0_deedIn 1 21 [.ref (gA G 18), .int x1] σ (some (oref G o)) σ := by
  refine Met.ofW (cc := cX0_deedIn) (maxL := 2) (ret := (some (.object "AlmanacOfTheYearGone$Deed"))) (by decide) rfl ?_
  intro p e s m args below meth c s₁ B hml hv
  obtain ⟨rfl, hP, hK⟩ := hv
  have hx := B.exec
  have hb := B.bytes
  have hr := B.returns
  have hts := atoms_spec (ws := wsX0_deedIn) B.pre
  have hown : s.vm.findClass RX0 = some m.cls := findClass_of_methodNamed B.named
  have hlocks := B.notSynchronized
  have Z : CallFix p m c cX0_deedIn 2 s _ wsX0_deedIn RX0 := ⟨hx, hb, hml, hown, hts⟩
  have hS : va_S (AG G) s.heap s.heap [] := va_S.rf
  have inX0 : ∀ w ∈ u_ws RX0 TX0 5, w ∈ wsX0_deedIn := by decide +kernel
  have w1 := hts (.fieldLink RX0 12 "AlmanacOfTheYearGone$Almanac" "year" "LAlmanacOfTheYearGone$Year;") (by decide +kernel)
  have w2 := hts (.initialized RX7) (by decide +kernel)
  have w3n : va_Nw (.methodLinkNest "AlmanacOfTheYearGone$Almanac" 66 ⟨"AlmanacOfTheYearGone$Year", "deedAt", "(I)LAlmanacOfTheYearGone$Deed;"⟩ "AlmanacOfTheYearGone") s := hK.2 _ (List.mem_of_getElem? (i := 68) rfl)
  have w3 := va_Nw.use (A := [.ref (gA G 18), .int x1].toArray) rfl w3n
  have w4 := hts (.instanceMethod yX7_deedAt) (by decide +kernel)
  have w5 := hts (.selects RX7 yX7_deedAt yX7_deedAt) (by decide +kernel)
  have hl := lv_entry ([.ref (gA G 18), .int x1]) (n := 2) (Nat.le_of_ble_eq_true rfl)
  rw [lg_entry_eq]
  generalize (lg_sl ([.ref (gA G 18), .int x1]) ++ List.replicate (2 - (lg_sl ([.ref (gA G 18), .int x1])).length) Slot.unset).toArray = ls at hl ⊢
  have hl : lv_has ls 2 [(0, .ref (gA G 18)), (1, .int x1)] := hl
  unfold f_X0_deedIn at hF
  refine lv_aload_n hx hb dX0_deedIn_0 rfl (lv_at hl 0 rfl) ?_
  refine va_get (ci := 0) (C := RX0) (T := TX0) (N := 5) (v := .ref (gA G 21)) hx hb hts inX0 hown hK.1 hP 18 (at_0 rfl) rfl 0 (by decide) w1 (fun _ h9 => h9) rfl dX0_deedIn_1 ?_
  refine lv_aload_n hx hb dX0_deedIn_4 rfl (lv_at hl 0 rfl) ?_
  refine lv_iload_n hx hb dX0_deedIn_5 rfl (lv_at hl 1 rfl) ?_
  obtain ⟨q1, h2, hF⟩ := ob_some hF
  refine k_Vv (As := [.int x1]) (rest := [.ref (gA G 21)]) Z hK hP hS (t_X0_numberIn l G hG x1 σ _ h2) (cwV 1 hts gX0_deedIn_X0_numberIn rfl rfl rfl (by decide +kernel) ⟨Nat.le_of_ble_eq_true rfl, Nat.le_of_ble_eq_true rfl⟩) (at_0 rfl) rfl rfl hl.1 rfl (Nat.le_of_ble_eq_true rfl) ⟨Nat.zero_le _, Nat.zero_le _⟩ dX0_deedIn_6 (fun H locs hP hS => ?_)
  obtain ⟨q3, h4, hF⟩ := ob_some hF
  refine k_VNv (As := [.int q1]) (rest := []) Z hK hP hS (t_X7_deedAt l G hG 21 q1 (rfl : kd 21 = 3) σ _ h4) ⟨va_cnB 1 hts gX0_deedIn_X7_deedAt_n66 rfl rfl rfl w3n w2 (by decide +kernel) ⟨Nat.le_of_ble_eq_true rfl, Nat.le_of_ble_eq_true rfl⟩, w4, w5⟩ (at_3 (rfl : kd 21 = 3)) rfl rfl hl.1 rfl (Nat.le_of_ble_eq_true rfl) ⟨Nat.zero_le _, Nat.zero_le _⟩ dX0_deedIn_9 (fun H locs hP hS => ?_)
  rcases q3 with _ | i5
  · have hF := oc_n hF
    refine W.eq (g2 := F0 m 12 ls [.null]) rfl ?_
    exact e_aP (q := none) hx hb hr hP hS hlocks dX0_deedIn_12 rfl hF
  · have hF := oc_s hF
    have ki5 : kd i5 = 1 := q_X7_deedAt (rfl : kd 21 = 3) h4
    refine W.eq (g2 := F0 m 12 ls [.ref (gA G i5)]) rfl ?_
    exact e_aP (q := some i5) hx hb hr hP hS hlocks dX0_deedIn_12 rfl hF
theorem q_X0_deedIn {x1 : Int32} {σ : St} {i : Nat} (h : f_X0_deedIn x1 σ = some (some i)) : kd i = 1 := by
  unfold f_X0_deedIn at h
  obtain ⟨q, -, h⟩ := ob_some h
  obtain ⟨j, h1, h⟩ := ob_some h
  cases j with
  | none => cases (oc_n h)
  | some j => cases (oc_s h); exact q_X7_deedAt (rfl : kd 21 = 3) h1
def f_X0_goesAhead_43 (i0 : Nat) (σ : St) : Bool := true
theorem f_X0_goesAhead_43_e {i0 : Nat} {σ : St} : f_X0_goesAhead_43 i0 σ  = true := rfl
def f_X0_goesAhead (i0 : Nat) (q1 : Option Nat) (σ : St) : Bool := oc q1 (false) (fun i1 => (if (σ i0 2) < (σ i1 2) then f_X0_goesAhead_43 i0 σ else (if (σ i0 2) = (σ i1 2) then (if (f_X1_size i0 σ) ≤ (f_X1_size i1 σ) then false else f_X0_goesAhead_43 i0 σ) else false)))
set_option maxRecDepth 100000 in
set_option maxHeartbeats 4000000 in
theorem t_X0_goesAhead (l : Launch) (G : GT) (hG : Dw G) (i0 : Nat) (q1 : Option Nat) (hk0 : kd i0 = 1) (hk1 : ∀ i, q1 = some i → kd i = 1) (σ : St) : Ct l G yX0_goesAhead wsX0_goesAhead 2 43 [.ref (gA G i0), oref G q1] σ (some (.int (b2i (f_X0_goesAhead i0 q1 σ)))) σ := by
  rcases q1 with _ | i1
  · change Ct l G yX0_goesAhead wsX0_goesAhead 2 43 [.ref (gA G i0), .null] σ (some (.int (b2i (f_X0_goesAhead i0 none σ)))) σ
    obtain ⟨o, hF⟩ : ∃ o, f_X0_goesAhead i0 none σ = o := ⟨_, rfl⟩
    rw [hF]
    refine Met.ofW (cc := cX0_goesAhead) (maxL := 2) (ret := (some .boolean)) (by decide) rfl ?_
    intro p e s m args below meth c s₁ B hml hv
    obtain ⟨rfl, hP, hK⟩ := hv
    have hx := B.exec
    have hb := B.bytes
    have hr := B.returns
    have hts := atoms_spec (ws := wsX0_goesAhead) B.pre
    have hown : s.vm.findClass RX0 = some m.cls := findClass_of_methodNamed B.named
    have hlocks := B.notSynchronized
    have Z : CallFix p m c cX0_goesAhead 2 s _ wsX0_goesAhead RX0 := ⟨hx, hb, hml, hown, hts⟩
    have hS : va_S (AG G) s.heap s.heap [] := va_S.rf
    have inX1 : ∀ w ∈ u_ws RX1 TX1 7, w ∈ wsX0_goesAhead := by decide +kernel
    have w1n : va_Nw (.fieldLinkNest "AlmanacOfTheYearGone$Almanac" 53 "AlmanacOfTheYearGone$Deed" "day" "I" "AlmanacOfTheYearGone") s := hK.2 _ (List.mem_of_getElem? (i := 14) rfl)
    have w1 := va_Nw.use (A := [.ref (gA G i0), .null].toArray) rfl w1n
    have w2 := hts (.initialized RX1) (by decide +kernel)
    have w3n : va_Nw (.methodLinkNest "AlmanacOfTheYearGone$Almanac" 58 ⟨"AlmanacOfTheYearGone$Deed", "size", "()I"⟩ "AlmanacOfTheYearGone") s := hK.2 _ (List.mem_of_getElem? (i := 69) rfl)
    have w3 := va_Nw.use (A := [.ref (gA G i0), .null].toArray) rfl w3n
    have w4 := hts (.instanceMethod yX1_size) (by decide +kernel)
    have w5 := hts (.selects RX1 yX1_size yX1_size) (by decide +kernel)
    have hl := lv_entry ([.ref (gA G i0), .null]) (n := 2) (Nat.le_of_ble_eq_true rfl)
    rw [lg_entry_eq]
    generalize (lg_sl ([.ref (gA G i0), .null]) ++ List.replicate (2 - (lg_sl ([.ref (gA G i0), .null])).length) Slot.unset).toArray = ls at hl ⊢
    unfold f_X0_goesAhead at hF
    have hF := oc_n hF
    have hl : lv_has ls 2 [(0, .ref (gA G i0)), (1, .null)] := hl
    refine lv_aload_n hx hb dX0_goesAhead_0 rfl (lv_at hl 0 rfl) ?_
    refine lv_ifnull hx hb dX0_goesAhead_1 ?_
    refine lv_aload_nN hx hb dX0_goesAhead_4 rfl (lv_at hl 1 rfl) ?_
    refine lv_ifnonnullN hx hb dX0_goesAhead_5 ?_
    refine lv_iconst (v := 0) hx hb dX0_goesAhead_8 (by decide) ?_
    exact e_zT (b := false) hx hb hr hP hS hlocks dX0_goesAhead_9 rfl hF
  · change Ct l G yX0_goesAhead wsX0_goesAhead 2 43 [.ref (gA G i0), .ref (gA G i1)] σ (some (.int (b2i (f_X0_goesAhead i0 (some i1) σ)))) σ
    obtain ⟨o, hF⟩ : ∃ o, f_X0_goesAhead i0 (some i1) σ = o := ⟨_, rfl⟩
    rw [hF]
    refine Met.ofW (cc := cX0_goesAhead) (maxL := 2) (ret := (some .boolean)) (by decide) rfl ?_
    intro p e s m args below meth c s₁ B hml hv
    obtain ⟨rfl, hP, hK⟩ := hv
    have hx := B.exec
    have hb := B.bytes
    have hr := B.returns
    have hts := atoms_spec (ws := wsX0_goesAhead) B.pre
    have hown : s.vm.findClass RX0 = some m.cls := findClass_of_methodNamed B.named
    have hlocks := B.notSynchronized
    have Z : CallFix p m c cX0_goesAhead 2 s _ wsX0_goesAhead RX0 := ⟨hx, hb, hml, hown, hts⟩
    have hS : va_S (AG G) s.heap s.heap [] := va_S.rf
    have inX1 : ∀ w ∈ u_ws RX1 TX1 7, w ∈ wsX0_goesAhead := by decide +kernel
    have w1n : va_Nw (.fieldLinkNest "AlmanacOfTheYearGone$Almanac" 53 "AlmanacOfTheYearGone$Deed" "day" "I" "AlmanacOfTheYearGone") s := hK.2 _ (List.mem_of_getElem? (i := 14) rfl)
    have w1 := va_Nw.use (A := [.ref (gA G i0), .ref (gA G i1)].toArray) rfl w1n
    have w2 := hts (.initialized RX1) (by decide +kernel)
    have w3n : va_Nw (.methodLinkNest "AlmanacOfTheYearGone$Almanac" 58 ⟨"AlmanacOfTheYearGone$Deed", "size", "()I"⟩ "AlmanacOfTheYearGone") s := hK.2 _ (List.mem_of_getElem? (i := 69) rfl)
    have w3 := va_Nw.use (A := [.ref (gA G i0), .ref (gA G i1)].toArray) rfl w3n
    have w4 := hts (.instanceMethod yX1_size) (by decide +kernel)
    have w5 := hts (.selects RX1 yX1_size yX1_size) (by decide +kernel)
    have hl := lv_entry ([.ref (gA G i0), .ref (gA G i1)]) (n := 2) (Nat.le_of_ble_eq_true rfl)
    rw [lg_entry_eq]
    generalize (lg_sl ([.ref (gA G i0), .ref (gA G i1)]) ++ List.replicate (2 - (lg_sl ([.ref (gA G i0), .ref (gA G i1)])).length) Slot.unset).toArray = ls at hl ⊢
    unfold f_X0_goesAhead at hF
    have hF := oc_s hF
    have hk1 := hk1 i1 rfl
    have hl : lv_has ls 2 [(0, .ref (gA G i0)), (1, .ref (gA G i1))] := hl
    refine lv_aload_n hx hb dX0_goesAhead_0 rfl (lv_at hl 0 rfl) ?_
    refine lv_ifnull hx hb dX0_goesAhead_1 ?_
    refine lv_aload_n hx hb dX0_goesAhead_4 rfl (lv_at hl 1 rfl) ?_
    refine lv_ifnonnull (tgt := 10) hx hb dX0_goesAhead_5 (by decide) ?_
    refine lv_aload_n hx hb dX0_goesAhead_10 rfl (lv_at hl 0 rfl) ?_
    refine va_getN (ci := 1) (C := RX1) (T := TX1) (N := 7) (v := .int (σ i0 2)) hx hb hts inX1 hown hK.1 hP i0 (at_1 hk0) rfl 2 (by decide) w1 (fun _ h9 => h9) rfl dX0_goesAhead_11 ?_
    refine lv_aload_n hx hb dX0_goesAhead_14 rfl (lv_at hl 1 rfl) ?_
    refine va_getN (ci := 1) (C := RX1) (T := TX1) (N := 7) (v := .int (σ i1 2)) hx hb hts inX1 hown hK.1 hP i1 (at_1 hk1) rfl 2 (by decide) w1 (fun _ h9 => h9) rfl dX0_goesAhead_15 ?_
    have J43 : ∀ (H : Heap) (locs : List Loc) (hP : Pw G σ H) (hS : va_S (AG G) s.heap H locs) (ls : Array Slot) (hl : lv_has ls 2 [(0, .ref (gA G i0))]) (hF : f_X0_goesAhead_43 i0 σ  = o), W p l e (headSpec wsX0_goesAhead ({ frames := 2, cells := 0, slots := 0, locals := 43 })).room s m ([.ref (gA G i0), .ref (gA G i1)] : List Value).toArray below meth c H locs 0 0 (MQ below (qR G (some (.int (b2i o))) σ) ([.ref (gA G i0), .ref (gA G i1)] : List Value).toArray s 0 0 (AG G)) (F0 m 43 ls []) := by
      intro  H locs hP hS ls hl hF
      rw [f_X0_goesAhead_43_e] at hF
      refine lv_iconst (v := 1) hx hb dX0_goesAhead_43 (by decide) ?_
      refine lv_goto (tgt := 48) hx hb dX0_goesAhead_44 (by decide) ?_
      exact e_zT (b := true) hx hb hr hP hS hlocks dX0_goesAhead_48 rfl hF
    refine lv_icmp_lt (tgt := 43) hx hb dX0_goesAhead_18 (by decide) (fun c1 => ?_) (fun c1 => ?_)
    · have hF := ite_t c1 hF
      exact J43  _ _ hP hS ls (lv_sub hl [0] rfl) hF
    · have hF := ite_f c1 hF
      refine lv_aload_n hx hb dX0_goesAhead_21 rfl (lv_at hl 0 rfl) ?_
      refine va_getN (ci := 1) (C := RX1) (T := TX1) (N := 7) (v := .int (σ i0 2)) hx hb hts inX1 hown hK.1 hP i0 (at_1 hk0) rfl 2 (by decide) w1 (fun _ h9 => h9) rfl dX0_goesAhead_22 ?_
      refine lv_aload_n hx hb dX0_goesAhead_25 rfl (lv_at hl 1 rfl) ?_
      refine va_getN (ci := 1) (C := RX1) (T := TX1) (N := 7) (v := .int (σ i1 2)) hx hb hts inX1 hown hK.1 hP i1 (at_1 hk1) rfl 2 (by decide) w1 (fun _ h9 => h9) rfl dX0_goesAhead_26 ?_
      refine lv_icmp_ne (tgt := 47) hx hb dX0_goesAhead_29 (by decide) (fun c2 => ?_) (fun c2 => ?_)
      · have hF := ite_f c2 hF
        refine lv_iconst (v := 0) hx hb dX0_goesAhead_47 (by decide) ?_
        exact e_zT (b := false) hx hb hr hP hS hlocks dX0_goesAhead_48 rfl hF
      · have hF := ite_t c2 hF
        refine lv_aload_n hx hb dX0_goesAhead_32 rfl (lv_at hl 0 rfl) ?_
        refine k_VNv (As := []) (rest := []) Z hK hP hS (t_X1_size l G hG i0 hk0 σ) ⟨va_cnB 0 hts gX0_goesAhead_X1_size_n58 rfl rfl rfl w3n w2 (by decide +kernel) ⟨Nat.le_of_ble_eq_true rfl, Nat.le_of_ble_eq_true rfl⟩, w4, w5⟩ (at_1 hk0) rfl rfl hl.1 rfl (Nat.le_of_ble_eq_true rfl) ⟨Nat.zero_le _, Nat.zero_le _⟩ dX0_goesAhead_33 (fun H locs hP hS => ?_)
        refine lv_aload_n hx hb dX0_goesAhead_36 rfl (lv_at hl 1 rfl) ?_
        refine k_VNv (As := []) (rest := [.int (f_X1_size i0 σ)]) Z hK hP hS (t_X1_size l G hG i1 hk1 σ) ⟨va_cnB 0 hts gX0_goesAhead_X1_size_n58 rfl rfl rfl w3n w2 (by decide +kernel) ⟨Nat.le_of_ble_eq_true rfl, Nat.le_of_ble_eq_true rfl⟩, w4, w5⟩ (at_1 hk1) rfl rfl hl.1 rfl (Nat.le_of_ble_eq_true rfl) ⟨Nat.zero_le _, Nat.zero_le _⟩ dX0_goesAhead_37 (fun H locs hP hS => ?_)
        refine lv_icmp_le (tgt := 47) hx hb dX0_goesAhead_40 (by decide) (fun c3 => ?_) (fun c3 => ?_)
        · have hF := ite_t c3 hF
          refine lv_iconst (v := 0) hx hb dX0_goesAhead_47 (by decide) ?_
          exact e_zT (b := false) hx hb hr hP hS hlocks dX0_goesAhead_48 rfl hF
        · have hF := ite_f c3 hF
          exact J43  _ _ hP hS ls (lv_sub hl [0] rfl) hF
def f_X0_setIn_56 (x1 : Int32) (i2 : Nat) (v3 : Int32) (τ : St) : Option St := (if inb v3 10 then some (up (up τ 19 v3.toNatClampNeg x1) 18 3 (((up τ 19 v3.toNatClampNeg x1) 18 3) + (1 : Int32))) else none)
theorem f_X0_setIn_56_e {x1 : Int32} {i2 : Nat} {v3 : Int32} {τ : St} : f_X0_setIn_56 x1 i2 v3 τ = (if inb v3 10 then some (up (up τ 19 v3.toNatClampNeg x1) 18 3 (((up τ 19 v3.toNatClampNeg x1) 18 3) + (1 : Int32))) else none) := rfl
def f_X0_setIn_18 (x1 : Int32) (i2 : Nat) : Nat → (Int32 → St → Option St)
  | 0 => fun _ _ => none
  | fl + 1 => fun v3 τ => (if v3 ≤ 0 then f_X0_setIn_56 x1 i2 v3 τ else (ob (f_X0_deedIn (v3 - (1 : Int32)) τ) (fun q4 => oc q4 ((if (f_X0_goesAhead i2 none τ) = true then (if inb (v3 - (1 : Int32)) 10 then if inb v3 10 then (f_X0_setIn_18 x1 i2 fl) (v3 + (-1 : Int32)) (up τ 19 v3.toNatClampNeg (τ 19 (v3 - (1 : Int32)).toNatClampNeg)) else none else none) else f_X0_setIn_56 x1 i2 v3 τ)) (fun i6 => (if (f_X0_goesAhead i2 (some i6) τ) = true then (if inb (v3 - (1 : Int32)) 10 then if inb v3 10 then (f_X0_setIn_18 x1 i2 fl) (v3 + (-1 : Int32)) (up τ 19 v3.toNatClampNeg (τ 19 (v3 - (1 : Int32)).toNatClampNeg)) else none else none) else f_X0_setIn_56 x1 i2 v3 τ)))))
theorem f_X0_setIn_18_s {x1 : Int32} {i2 : Nat} (fl : Nat) {v3 : Int32} {τ : St} : f_X0_setIn_18 x1 i2 (fl + 1) v3 τ = (if v3 ≤ 0 then f_X0_setIn_56 x1 i2 v3 τ else (ob (f_X0_deedIn (v3 - (1 : Int32)) τ) (fun q4 => oc q4 ((if (f_X0_goesAhead i2 none τ) = true then (if inb (v3 - (1 : Int32)) 10 then if inb v3 10 then (f_X0_setIn_18 x1 i2 fl) (v3 + (-1 : Int32)) (up τ 19 v3.toNatClampNeg (τ 19 (v3 - (1 : Int32)).toNatClampNeg)) else none else none) else f_X0_setIn_56 x1 i2 v3 τ)) (fun i6 => (if (f_X0_goesAhead i2 (some i6) τ) = true then (if inb (v3 - (1 : Int32)) 10 then if inb v3 10 then (f_X0_setIn_18 x1 i2 fl) (v3 + (-1 : Int32)) (up τ 19 v3.toNatClampNeg (τ 19 (v3 - (1 : Int32)).toNatClampNeg)) else none else none) else f_X0_setIn_56 x1 i2 v3 τ))))) := rfl
def f_X0_setIn (x1 : Int32) (i2 : Nat) (σ : St) : Option St := (if (σ 18 3) < (10 : Int32) then (f_X0_setIn_18 x1 i2 fu (σ 18 3) σ) else (some σ))
set_option maxRecDepth 100000 in
set_option maxHeartbeats 4000000 in
theorem t_X0_setIn (l : Launch) (G : GT) (hG : Dw G) (x1 : Int32) (i2 : Nat) (hk2 : kd i2 = 1) (σ : St) (o : St) (hF : f_X0_setIn x1 i2 σ = some o) : Ct l G yX0_setIn wsX0_setIn 3 64 [.ref (gA G 18), .int x1, .ref (gA G i2)] σ none o := by
  refine Met.ofW (cc := cX0_setIn) (maxL := 4) (ret := none) (by decide) rfl ?_
  intro p e s m args below meth c s₁ B hml hv
  obtain ⟨rfl, hP, hK⟩ := hv
  have hx := B.exec
  have hb := B.bytes
  have hr := B.returns
  have hts := atoms_spec (ws := wsX0_setIn) B.pre
  have hown : s.vm.findClass RX0 = some m.cls := findClass_of_methodNamed B.named
  have hlocks := B.notSynchronized
  have Z : CallFix p m c cX0_setIn 4 s _ wsX0_setIn RX0 := ⟨hx, hb, hml, hown, hts⟩
  have hS : va_S (AG G) s.heap s.heap [] := va_S.rf
  have inX0 : ∀ w ∈ u_ws RX0 TX0 5, w ∈ wsX0_setIn := by decide +kernel
  have w1 := hts (.fieldLink RX0 25 "AlmanacOfTheYearGone$Almanac" "printed" "I") (by decide +kernel)
  have w2 := hts (.fieldLink RX0 18 "AlmanacOfTheYearGone$Almanac" "order" "[I") (by decide +kernel)
  have hl := lv_entry ([.ref (gA G 18), .int x1, .ref (gA G i2)]) (n := 4) (Nat.le_of_ble_eq_true rfl)
  rw [lg_entry_eq]
  generalize (lg_sl ([.ref (gA G 18), .int x1, .ref (gA G i2)]) ++ List.replicate (4 - (lg_sl ([.ref (gA G 18), .int x1, .ref (gA G i2)])).length) Slot.unset).toArray = ls at hl ⊢
  have hl : lv_has ls 4 [(0, .ref (gA G 18)), (1, .int x1), (2, .ref (gA G i2))] := hl
  unfold f_X0_setIn at hF
  refine lv_aload_n hx hb dX0_setIn_0 rfl (lv_at hl 0 rfl) ?_
  refine va_get (ci := 0) (C := RX0) (T := TX0) (N := 5) (v := .int (σ 18 3)) hx hb hts inX0 hown hK.1 hP 18 (at_0 rfl) rfl 3 (by decide) w1 (fun _ h9 => h9) rfl dX0_setIn_1 ?_
  refine lv_aload_n hx hb dX0_setIn_4 rfl (lv_at hl 0 rfl) ?_
  refine va_get (ci := 0) (C := RX0) (T := TX0) (N := 5) (v := .ref (gA G 19)) hx hb hts inX0 hown hK.1 hP 18 (at_0 rfl) rfl 1 (by decide) w2 (fun _ h9 => h9) rfl dX0_setIn_5 ?_
  refine va_alen (v := 10) hx hb hK.1 hP 19 0 (at_6 (rfl : kd 19 = 6) (rfl : ln 19 = 10)) rfl rfl dX0_setIn_8 ?_
  refine lv_icmp_lt (tgt := 13) hx hb dX0_setIn_9 (by decide) (fun c1 => ?_) (fun c1 => ?_)
  · have hF := ite_t c1 hF
    refine lv_aload_n hx hb dX0_setIn_13 rfl (lv_at hl 0 rfl) ?_
    refine va_get (ci := 0) (C := RX0) (T := TX0) (N := 5) (v := .int (σ 18 3)) hx hb hts inX0 hown hK.1 hP 18 (at_0 rfl) rfl 3 (by decide) w1 (fun _ h9 => h9) rfl dX0_setIn_14 ?_
    have J18 : ∀ (fl : Nat) (v3 : Int32) (τ : St) (H : Heap) (locs : List Loc) (hP : Pw G τ H) (hS : va_S (AG G) s.heap H locs) (ls : Array Slot) (hl : lv_has ls 4 [(0, .ref (gA G 18)), (1, .int x1), (2, .ref (gA G i2)), (3, .int v3)]) (hF : f_X0_setIn_18 x1 i2 fl v3 τ = some o), W p l e (headSpec wsX0_setIn ({ frames := 3, cells := 0, slots := 0, locals := 64 })).room s m ([.ref (gA G 18), .int x1, .ref (gA G i2)] : List Value).toArray below meth c H locs 0 0 (MQ below (qR G none o) ([.ref (gA G 18), .int x1, .ref (gA G i2)] : List Value).toArray s 0 0 (AG G)) (F0 m 18 ls []) := by
      intro fl18
      induction fl18 with
      | zero => intro v3 τ H locs hP hS ls hl hF; cases hF
      | succ fl18 ih18 =>
        intro v3 τ H locs hP hS ls hl hF
        rw [f_X0_setIn_18_s] at hF
        refine lv_iload_n hx hb dX0_setIn_18 rfl (lv_at hl 3 rfl) ?_
        have J56 : ∀ (v3 : Int32) (τ : St) (H : Heap) (locs : List Loc) (hP : Pw G τ H) (hS : va_S (AG G) s.heap H locs) (ls : Array Slot) (hl : lv_has ls 4 [(0, .ref (gA G 18)), (1, .int x1), (2, .ref (gA G i2)), (3, .int v3)]) (hF : f_X0_setIn_56 x1 i2 v3 τ = some o), W p l e (headSpec wsX0_setIn ({ frames := 3, cells := 0, slots := 0, locals := 64 })).room s m ([.ref (gA G 18), .int x1, .ref (gA G i2)] : List Value).toArray below meth c H locs 0 0 (MQ below (qR G none o) ([.ref (gA G 18), .int x1, .ref (gA G i2)] : List Value).toArray s 0 0 (AG G)) (F0 m 56 ls []) := by
          intro v3 τ H locs hP hS ls hl hF
          rw [f_X0_setIn_56_e] at hF
          refine lv_aload_n hx hb dX0_setIn_56 rfl (lv_at hl 0 rfl) ?_
          refine va_get (ci := 0) (C := RX0) (T := TX0) (N := 5) (v := .ref (gA G 19)) hx hb hts inX0 hown hK.1 hP 18 (at_0 rfl) rfl 1 (by decide) w2 (fun _ h9 => h9) rfl dX0_setIn_57 ?_
          refine lv_iload_n hx hb dX0_setIn_60 rfl (lv_at hl 3 rfl) ?_
          refine lv_iload_n hx hb dX0_setIn_61 rfl (lv_at hl 1 rfl) ?_
          obtain ⟨b2, hF⟩ := ite_some hF
          refine va_iast hx hb hK.1 hP (Dw.D hG) hS 19 0 (at_6 (rfl : kd 19 = 6) (rfl : ln 19 = 10)) rfl (inb_in b2) dX0_setIn_62 (fun H locs hP _ hS => ?_)
          have hP : Pw G (up τ 19 v3.toNatClampNeg x1) H := Pw.of hP (set_6 (rfl : kd 19 = 6) (rfl : ln 19 = 10))
          refine lv_aload_n hx hb dX0_setIn_63 rfl (lv_at hl 0 rfl) ?_
          refine lv_dup hx hb dX0_setIn_64 rfl ?_
          refine va_get (ci := 0) (C := RX0) (T := TX0) (N := 5) (v := .int ((up τ 19 v3.toNatClampNeg x1) 18 3)) hx hb hts inX0 hown hK.1 hP 18 (at_0 rfl) rfl 3 (by decide) w1 (fun _ h9 => h9) rfl dX0_setIn_65 ?_
          refine lv_iconst (v := 1) hx hb dX0_setIn_68 (by decide) ?_
          refine lv_iadd hx hb dX0_setIn_69 ?_
          refine va_put (ci := 0) (C := RX0) (T := TX0) (N := 5) (v := .int (((up τ 19 v3.toNatClampNeg x1) 18 3) + (1 : Int32))) (ty := .int) hx hb hts inX0 tyX0 tyX0_ok nmX0 hown hK.1 hP (Dw.D hG) hS 18 (at_0 rfl) rfl 3 (by decide) w1 (fun _ h9 => h9) rfl (by decide +kernel) rfl rfl (Nat.le_of_ble_eq_true rfl) dX0_setIn_70 (fun H locs hP _ hS => ?_)
          have hP := Pw.of hP (set_0_3 rfl)
          exact e_vS hx hb hr hP hS hlocks dX0_setIn_73 hF
        refine lv_if_le (tgt := 56) hx hb dX0_setIn_19 (by decide) (fun c3 => ?_) (fun c3 => ?_)
        · have hF := ite_t c3 hF
          exact J56 v3 τ _ _ hP hS ls (lv_sub hl [0, 1, 2, 3] rfl) hF
        · have hF := ite_f c3 hF
          refine lv_aload_n hx hb dX0_setIn_22 rfl (lv_at hl 2 rfl) ?_
          refine lv_aload_n hx hb dX0_setIn_23 rfl (lv_at hl 0 rfl) ?_
          refine lv_iload_n hx hb dX0_setIn_24 rfl (lv_at hl 3 rfl) ?_
          refine lv_iconst (v := 1) hx hb dX0_setIn_25 (by decide) ?_
          refine lv_isub hx hb dX0_setIn_26 ?_
          obtain ⟨q4, h5, hF⟩ := ob_some hF
          refine k_Vv (As := [.int (v3 - (1 : Int32))]) (rest := [.ref (gA G i2)]) Z hK hP hS (t_X0_deedIn l G hG (v3 - (1 : Int32)) τ _ h5) (cwV 1 hts gX0_setIn_X0_deedIn rfl rfl rfl (by decide +kernel) ⟨Nat.le_of_ble_eq_true rfl, Nat.le_of_ble_eq_true rfl⟩) (at_0 rfl) rfl rfl hl.1 rfl (Nat.le_of_ble_eq_true rfl) ⟨Nat.zero_le _, Nat.zero_le _⟩ dX0_setIn_27 (fun H locs hP hS => ?_)
          rcases q4 with _ | i6
          · have hF := oc_n hF
            refine W.eq (g2 := F0 m 30 ls [.null, .ref (gA G i2)]) rfl ?_
            refine k_Sv (As := [.ref (gA G i2), .null]) (rest := []) Z hK hP hS (t_X0_goesAhead l G hG i2 none hk2 (fun _ h9 => by cases h9) τ) (va_cwS 2 hts gX0_setIn_X0_goesAhead rfl rfl rfl (by decide +kernel) ⟨Nat.le_of_ble_eq_true rfl, Nat.le_of_ble_eq_true rfl⟩) rfl hl.1 rfl (Nat.le_of_ble_eq_true rfl) ⟨Nat.zero_le _, Nat.zero_le _⟩ dX0_setIn_30 (fun H locs hP hS => ?_)
            refine lv_if_eq (tgt := 56) hx hb dX0_setIn_33 (by decide) (fun c7 => ?_) (fun c7 => ?_)
            · have hF := ite_f (b2i_e0 c7) hF
              exact J56 v3 τ _ _ hP hS ls (lv_sub hl [0, 1, 2, 3] rfl) hF
            · have hF := ite_t (b2i_n0 c7) hF
              refine lv_aload_n hx hb dX0_setIn_36 rfl (lv_at hl 0 rfl) ?_
              refine va_get (ci := 0) (C := RX0) (T := TX0) (N := 5) (v := .ref (gA G 19)) hx hb hts inX0 hown hK.1 hP 18 (at_0 rfl) rfl 1 (by decide) w2 (fun _ h9 => h9) rfl dX0_setIn_37 ?_
              refine lv_iload_n hx hb dX0_setIn_40 rfl (lv_at hl 3 rfl) ?_
              refine lv_aload_n hx hb dX0_setIn_41 rfl (lv_at hl 0 rfl) ?_
              refine va_get (ci := 0) (C := RX0) (T := TX0) (N := 5) (v := .ref (gA G 19)) hx hb hts inX0 hown hK.1 hP 18 (at_0 rfl) rfl 1 (by decide) w2 (fun _ h9 => h9) rfl dX0_setIn_42 ?_
              refine lv_iload_n hx hb dX0_setIn_45 rfl (lv_at hl 3 rfl) ?_
              refine lv_iconst (v := 1) hx hb dX0_setIn_46 (by decide) ?_
              refine lv_isub hx hb dX0_setIn_47 ?_
              obtain ⟨b8, hF⟩ := ite_some hF
              refine va_iald hx hb hK.1 hP 19 0 (at_6 (rfl : kd 19 = 6) (rfl : ln 19 = 10)) rfl (inb_in b8) dX0_setIn_48 ?_
              obtain ⟨b9, hF⟩ := ite_some hF
              refine va_iast hx hb hK.1 hP (Dw.D hG) hS 19 0 (at_6 (rfl : kd 19 = 6) (rfl : ln 19 = 10)) rfl (inb_in b9) dX0_setIn_49 (fun H locs hP _ hS => ?_)
              have hP : Pw G (up τ 19 v3.toNatClampNeg (τ 19 (v3 - (1 : Int32)).toNatClampNeg)) H := Pw.of hP (set_6 (rfl : kd 19 = 6) (rfl : ln 19 = 10))
              refine lv_iinc (v := (v3 + (-1 : Int32))) (lv' := [(3, .int (v3 + (-1 : Int32))), (0, .ref (gA G 18)), (1, .int x1), (2, .ref (gA G i2))]) hx hb dX0_setIn_50 hl (k := 3) rfl rfl (by decide) rfl (fun ls hl => ?_)
              refine lv_goto (tgt := 18) hx hb dX0_setIn_53 (by decide) ?_
              exact ih18 (v3 + (-1 : Int32)) (up τ 19 v3.toNatClampNeg (τ 19 (v3 - (1 : Int32)).toNatClampNeg)) _ _ hP hS ls (lv_sub hl [1, 2, 3, 0] rfl) hF
          · have hF := oc_s hF
            have ki6 : kd i6 = 1 := q_X0_deedIn  h5
            refine W.eq (g2 := F0 m 30 ls [.ref (gA G i6), .ref (gA G i2)]) rfl ?_
            refine k_Sv (As := [.ref (gA G i2), .ref (gA G i6)]) (rest := []) Z hK hP hS (t_X0_goesAhead l G hG i2 (some i6) hk2 (fun _ h9 => by cases h9; exact ki6) τ) (va_cwS 2 hts gX0_setIn_X0_goesAhead rfl rfl rfl (by decide +kernel) ⟨Nat.le_of_ble_eq_true rfl, Nat.le_of_ble_eq_true rfl⟩) rfl hl.1 rfl (Nat.le_of_ble_eq_true rfl) ⟨Nat.zero_le _, Nat.zero_le _⟩ dX0_setIn_30 (fun H locs hP hS => ?_)
            refine lv_if_eq (tgt := 56) hx hb dX0_setIn_33 (by decide) (fun c10 => ?_) (fun c10 => ?_)
            · have hF := ite_f (b2i_e0 c10) hF
              exact J56 v3 τ _ _ hP hS ls (lv_sub hl [0, 1, 2, 3] rfl) hF
            · have hF := ite_t (b2i_n0 c10) hF
              refine lv_aload_n hx hb dX0_setIn_36 rfl (lv_at hl 0 rfl) ?_
              refine va_get (ci := 0) (C := RX0) (T := TX0) (N := 5) (v := .ref (gA G 19)) hx hb hts inX0 hown hK.1 hP 18 (at_0 rfl) rfl 1 (by decide) w2 (fun _ h9 => h9) rfl dX0_setIn_37 ?_
              refine lv_iload_n hx hb dX0_setIn_40 rfl (lv_at hl 3 rfl) ?_
              refine lv_aload_n hx hb dX0_setIn_41 rfl (lv_at hl 0 rfl) ?_
              refine va_get (ci := 0) (C := RX0) (T := TX0) (N := 5) (v := .ref (gA G 19)) hx hb hts inX0 hown hK.1 hP 18 (at_0 rfl) rfl 1 (by decide) w2 (fun _ h9 => h9) rfl dX0_setIn_42 ?_
              refine lv_iload_n hx hb dX0_setIn_45 rfl (lv_at hl 3 rfl) ?_
              refine lv_iconst (v := 1) hx hb dX0_setIn_46 (by decide) ?_
              refine lv_isub hx hb dX0_setIn_47 ?_
              obtain ⟨b11, hF⟩ := ite_some hF
              refine va_iald hx hb hK.1 hP 19 0 (at_6 (rfl : kd 19 = 6) (rfl : ln 19 = 10)) rfl (inb_in b11) dX0_setIn_48 ?_
              obtain ⟨b12, hF⟩ := ite_some hF
              refine va_iast hx hb hK.1 hP (Dw.D hG) hS 19 0 (at_6 (rfl : kd 19 = 6) (rfl : ln 19 = 10)) rfl (inb_in b12) dX0_setIn_49 (fun H locs hP _ hS => ?_)
              have hP : Pw G (up τ 19 v3.toNatClampNeg (τ 19 (v3 - (1 : Int32)).toNatClampNeg)) H := Pw.of hP (set_6 (rfl : kd 19 = 6) (rfl : ln 19 = 10))
              refine lv_iinc (v := (v3 + (-1 : Int32))) (lv' := [(3, .int (v3 + (-1 : Int32))), (0, .ref (gA G 18)), (1, .int x1), (2, .ref (gA G i2))]) hx hb dX0_setIn_50 hl (k := 3) rfl rfl (by decide) rfl (fun ls hl => ?_)
              refine lv_goto (tgt := 18) hx hb dX0_setIn_53 (by decide) ?_
              exact ih18 (v3 + (-1 : Int32)) (up τ 19 v3.toNatClampNeg (τ 19 (v3 - (1 : Int32)).toNatClampNeg)) _ _ hP hS ls (lv_sub hl [1, 2, 3, 0] rfl) hF
    refine lv_istore_n (lv' := [(3, .int (σ 18 3)), (0, .ref (gA G 18)), (1, .int x1), (2, .ref (gA G i2))]) hx hb dX0_setIn_17 rfl hl (by decide) rfl (fun ls hl => ?_)
    exact J18 fu (σ 18 3) σ _ _ hP hS ls (lv_sub hl [1, 2, 3, 0] rfl) hF
  · have hF := ite_f c1 hF
    exact e_vS hx hb hr hP hS hlocks dX0_setIn_12 hF
def f_X0_breakPages_71 (rec9 : Int32 → Int32 → St → Option St) (v1 : Int32) (v2 : Int32) (v4 : Int32) (τ : St) : Option St := (if inb v2 10 then rec9 (v1 + v4) (v2 + (1 : Int32)) (up τ 20 v2.toNatClampNeg ((τ 18 4) - (1 : Int32))) else none)
theorem f_X0_breakPages_71_e {rec9 : Int32 → Int32 → St → Option St} {v1 : Int32} {v2 : Int32} {v4 : Int32} {τ : St} : f_X0_breakPages_71 rec9 v1 v2 v4 τ = (if inb v2 10 then rec9 (v1 + v4) (v2 + (1 : Int32)) (up τ 20 v2.toNatClampNeg ((τ 18 4) - (1 : Int32))) else none) := rfl
def f_X0_breakPages_59 (rec9 : Int32 → Int32 → St → Option St) (v2 : Int32) (v4 : Int32) (τ : St) : Option St := (f_X0_breakPages_71 rec9 (0 : Int32) v2 v4 (up τ 18 4 ((τ 18 4) + (1 : Int32))))
theorem f_X0_breakPages_59_e {rec9 : Int32 → Int32 → St → Option St} {v2 : Int32} {v4 : Int32} {τ : St} : f_X0_breakPages_59 rec9 v2 v4 τ = (f_X0_breakPages_71 rec9 (0 : Int32) v2 v4 (up τ 18 4 ((τ 18 4) + (1 : Int32)))) := rfl
def f_X0_breakPages_44 (rec9 : Int32 → Int32 → St → Option St) (v1 : Int32) (v2 : Int32) (z0 : Int32) (τ : St) : Option St := (if v2 = 0 then f_X0_breakPages_59 rec9 v2 z0 τ else (if (v1 + z0) ≤ (30 : Int32) then f_X0_breakPages_71 rec9 v1 v2 z0 τ else f_X0_breakPages_59 rec9 v2 z0 τ))
theorem f_X0_breakPages_44_e {rec9 : Int32 → Int32 → St → Option St} {v1 : Int32} {v2 : Int32} {z0 : Int32} {τ : St} : f_X0_breakPages_44 rec9 v1 v2 z0 τ = (if v2 = 0 then f_X0_breakPages_59 rec9 v2 z0 τ else (if (v1 + z0) ≤ (30 : Int32) then f_X0_breakPages_71 rec9 v1 v2 z0 τ else f_X0_breakPages_59 rec9 v2 z0 τ)) := rfl
def f_X0_breakPages_9 : Nat → (Int32 → Int32 → St → Option St)
  | 0 => fun _ _ _ => none
  | fl + 1 => fun v1 v2 τ => (if (τ 18 3) ≤ v2 then (some τ) else (if (10 : Int32) ≤ v2 then (some τ) else (ob (f_X0_deedIn v2 τ) (fun q3 => oc q3 ((f_X0_breakPages_44 (f_X0_breakPages_9 fl) v1 v2 (0 : Int32) τ)) (fun i5 => (f_X0_breakPages_44 (f_X0_breakPages_9 fl) v1 v2 (f_X1_size i5 τ) τ))))))
theorem f_X0_breakPages_9_s (fl : Nat) {v1 : Int32} {v2 : Int32} {τ : St} : f_X0_breakPages_9 (fl + 1) v1 v2 τ = (if (τ 18 3) ≤ v2 then (some τ) else (if (10 : Int32) ≤ v2 then (some τ) else (ob (f_X0_deedIn v2 τ) (fun q3 => oc q3 ((f_X0_breakPages_44 (f_X0_breakPages_9 fl) v1 v2 (0 : Int32) τ)) (fun i5 => (f_X0_breakPages_44 (f_X0_breakPages_9 fl) v1 v2 (f_X1_size i5 τ) τ)))))) := rfl
def f_X0_breakPages (σ : St) : Option St := (f_X0_breakPages_9 fu (0 : Int32) (0 : Int32) (up σ 18 4 (0 : Int32)))
set_option maxRecDepth 100000 in
set_option maxHeartbeats 4000000 in
theorem t_X0_breakPages (l : Launch) (G : GT) (hG : Dw G) (σ : St) (o : St) (hF : f_X0_breakPages σ = some o) : Ct l G yX0_breakPages wsX0_breakPages 2 43 [.ref (gA G 18)] σ none o := by
  refine Met.ofW (cc := cX0_breakPages) (maxL := 5) (ret := none) (by decide) rfl ?_
  intro p e s m args below meth c s₁ B hml hv
  obtain ⟨rfl, hP, hK⟩ := hv
  have hx := B.exec
  have hb := B.bytes
  have hr := B.returns
  have hts := atoms_spec (ws := wsX0_breakPages) B.pre
  have hown : s.vm.findClass RX0 = some m.cls := findClass_of_methodNamed B.named
  have hlocks := B.notSynchronized
  have Z : CallFix p m c cX0_breakPages 5 s _ wsX0_breakPages RX0 := ⟨hx, hb, hml, hown, hts⟩
  have hS : va_S (AG G) s.heap s.heap [] := va_S.rf
  have inX0 : ∀ w ∈ u_ws RX0 TX0 5, w ∈ wsX0_breakPages := by decide +kernel
  have w1 := hts (.fieldLink RX0 29 "AlmanacOfTheYearGone$Almanac" "pageCount" "I") (by decide +kernel)
  have w2 := hts (.fieldLink RX0 25 "AlmanacOfTheYearGone$Almanac" "printed" "I") (by decide +kernel)
  have w3 := hts (.fieldLink RX0 22 "AlmanacOfTheYearGone$Almanac" "pageAt" "[I") (by decide +kernel)
  have w4 := hts (.initialized RX1) (by decide +kernel)
  have w5n : va_Nw (.methodLinkNest "AlmanacOfTheYearGone$Almanac" 58 ⟨"AlmanacOfTheYearGone$Deed", "size", "()I"⟩ "AlmanacOfTheYearGone") s := hK.2 _ (List.mem_of_getElem? (i := 69) rfl)
  have w5 := va_Nw.use (A := [.ref (gA G 18)].toArray) rfl w5n
  have w6 := hts (.instanceMethod yX1_size) (by decide +kernel)
  have w7 := hts (.selects RX1 yX1_size yX1_size) (by decide +kernel)
  have hl := lv_entry ([.ref (gA G 18)]) (n := 5) (Nat.le_of_ble_eq_true rfl)
  rw [lg_entry_eq]
  generalize (lg_sl ([.ref (gA G 18)]) ++ List.replicate (5 - (lg_sl ([.ref (gA G 18)])).length) Slot.unset).toArray = ls at hl ⊢
  have hl : lv_has ls 5 [(0, .ref (gA G 18))] := hl
  unfold f_X0_breakPages at hF
  refine lv_aload_n hx hb dX0_breakPages_0 rfl (lv_at hl 0 rfl) ?_
  refine lv_iconst (v := 0) hx hb dX0_breakPages_1 (by decide) ?_
  refine va_put (ci := 0) (C := RX0) (T := TX0) (N := 5) (v := .int (0 : Int32)) (ty := .int) hx hb hts inX0 tyX0 tyX0_ok nmX0 hown hK.1 hP (Dw.D hG) hS 18 (at_0 rfl) rfl 4 (by decide) w1 (fun _ h9 => h9) rfl (by decide +kernel) rfl rfl (Nat.le_of_ble_eq_true rfl) dX0_breakPages_2 (fun H locs hP _ hS => ?_)
  have hP := Pw.of hP (set_0_4 rfl)
  refine lv_iconst (v := 0) hx hb dX0_breakPages_5 (by decide) ?_
  refine lv_istore_n (lv' := [(1, .int (0 : Int32)), (0, .ref (gA G 18))]) hx hb dX0_breakPages_6 rfl hl (by decide) rfl (fun ls hl => ?_)
  refine lv_iconst (v := 0) hx hb dX0_breakPages_7 (by decide) ?_
  have J9 : ∀ (fl : Nat) (v1 : Int32) (v2 : Int32) (τ : St) (H : Heap) (locs : List Loc) (hP : Pw G τ H) (hS : va_S (AG G) s.heap H locs) (ls : Array Slot) (hl : lv_has ls 5 [(0, .ref (gA G 18)), (1, .int v1), (2, .int v2)]) (hF : f_X0_breakPages_9 fl v1 v2 τ = some o), W p l e (headSpec wsX0_breakPages ({ frames := 2, cells := 0, slots := 0, locals := 43 })).room s m ([.ref (gA G 18)] : List Value).toArray below meth c H locs 0 0 (MQ below (qR G none o) ([.ref (gA G 18)] : List Value).toArray s 0 0 (AG G)) (F0 m 9 ls []) := by
    intro fl9
    induction fl9 with
    | zero => intro v1 v2 τ H locs hP hS ls hl hF; cases hF
    | succ fl9 ih9 =>
      intro v1 v2 τ H locs hP hS ls hl hF
      rw [f_X0_breakPages_9_s] at hF
      refine lv_iload_n hx hb dX0_breakPages_9 rfl (lv_at hl 2 rfl) ?_
      refine lv_aload_n hx hb dX0_breakPages_10 rfl (lv_at hl 0 rfl) ?_
      refine va_get (ci := 0) (C := RX0) (T := TX0) (N := 5) (v := .int (τ 18 3)) hx hb hts inX0 hown hK.1 hP 18 (at_0 rfl) rfl 3 (by decide) w2 (fun _ h9 => h9) rfl dX0_breakPages_11 ?_
      refine lv_icmp_ge (tgt := 94) hx hb dX0_breakPages_14 (by decide) (fun c1 => ?_) (fun c1 => ?_)
      · have hF := ite_t c1 hF
        exact e_vS hx hb hr hP hS hlocks dX0_breakPages_94 hF
      · have hF := ite_f c1 hF
        refine lv_iload_n hx hb dX0_breakPages_17 rfl (lv_at hl 2 rfl) ?_
        refine lv_aload_n hx hb dX0_breakPages_18 rfl (lv_at hl 0 rfl) ?_
        refine va_get (ci := 0) (C := RX0) (T := TX0) (N := 5) (v := .ref (gA G 20)) hx hb hts inX0 hown hK.1 hP 18 (at_0 rfl) rfl 2 (by decide) w3 (fun _ h9 => h9) rfl dX0_breakPages_19 ?_
        refine va_alen (v := 10) hx hb hK.1 hP 20 0 (at_6 (rfl : kd 20 = 6) (rfl : ln 20 = 10)) rfl rfl dX0_breakPages_22 ?_
        refine lv_icmp_ge (tgt := 94) hx hb dX0_breakPages_23 (by decide) (fun c2 => ?_) (fun c2 => ?_)
        · have hF := ite_t c2 hF
          exact e_vS hx hb hr hP hS hlocks dX0_breakPages_94 hF
        · have hF := ite_f c2 hF
          refine lv_aload_n hx hb dX0_breakPages_26 rfl (lv_at hl 0 rfl) ?_
          refine lv_iload_n hx hb dX0_breakPages_27 rfl (lv_at hl 2 rfl) ?_
          obtain ⟨q3, h4, hF⟩ := ob_some hF
          refine k_Vv (As := [.int v2]) (rest := []) Z hK hP hS (t_X0_deedIn l G hG v2 τ _ h4) (cwV 1 hts gX0_breakPages_X0_deedIn rfl rfl rfl (by decide +kernel) ⟨Nat.le_of_ble_eq_true rfl, Nat.le_of_ble_eq_true rfl⟩) (at_0 rfl) rfl rfl hl.1 rfl (Nat.le_of_ble_eq_true rfl) ⟨Nat.zero_le _, Nat.zero_le _⟩ dX0_breakPages_28 (fun H locs hP hS => ?_)
          rcases q3 with _ | i5
          · have hF := oc_n hF
            refine W.eq (g2 := F0 m 31 ls [.null]) rfl ?_
            refine lv_astore_nN (lv' := [(3, .null), (0, .ref (gA G 18)), (1, .int v1), (2, .int v2)]) hx hb dX0_breakPages_31 rfl hl (by decide) rfl (fun ls hl => ?_)
            refine lv_aload_nN hx hb dX0_breakPages_32 rfl (lv_at hl 0 rfl) ?_
            have J44 : ∀ (v1 : Int32) (v2 : Int32) (z0 : Int32) (τ : St) (H : Heap) (locs : List Loc) (hP : Pw G τ H) (hS : va_S (AG G) s.heap H locs) (ls : Array Slot) (hl : lv_has ls 5 [(0, .ref (gA G 18)), (1, .int v1), (2, .int v2)]) (hF : f_X0_breakPages_44 (f_X0_breakPages_9 fl9) v1 v2 z0 τ = some o), W p l e (headSpec wsX0_breakPages ({ frames := 2, cells := 0, slots := 0, locals := 43 })).room s m ([.ref (gA G 18)] : List Value).toArray below meth c H locs 0 0 (MQ below (qR G none o) ([.ref (gA G 18)] : List Value).toArray s 0 0 (AG G)) (F0 m 44 ls [.int z0]) := by
              intro v1 v2 z0 τ H locs hP hS ls hl hF
              rw [f_X0_breakPages_44_e] at hF
              refine lv_istore (lv' := [(4, .int z0), (0, .ref (gA G 18)), (1, .int v1), (2, .int v2)]) hx hb dX0_breakPages_44 hl (by decide) rfl (fun ls hl => ?_)
              refine lv_iload_n hx hb dX0_breakPages_46 rfl (lv_at hl 3 rfl) ?_
              have J71 : ∀ (v1 : Int32) (v2 : Int32) (v4 : Int32) (τ : St) (H : Heap) (locs : List Loc) (hP : Pw G τ H) (hS : va_S (AG G) s.heap H locs) (ls : Array Slot) (hl : lv_has ls 5 [(0, .ref (gA G 18)), (1, .int v1), (2, .int v2), (4, .int v4)]) (hF : f_X0_breakPages_71 (f_X0_breakPages_9 fl9) v1 v2 v4 τ = some o), W p l e (headSpec wsX0_breakPages ({ frames := 2, cells := 0, slots := 0, locals := 43 })).room s m ([.ref (gA G 18)] : List Value).toArray below meth c H locs 0 0 (MQ below (qR G none o) ([.ref (gA G 18)] : List Value).toArray s 0 0 (AG G)) (F0 m 71 ls []) := by
                intro v1 v2 v4 τ H locs hP hS ls hl hF
                rw [f_X0_breakPages_71_e] at hF
                refine lv_iload_n hx hb dX0_breakPages_71 rfl (lv_at hl 1 rfl) ?_
                refine lv_iload hx hb dX0_breakPages_72 (lv_at hl 3 rfl) ?_
                refine lv_iadd hx hb dX0_breakPages_74 ?_
                refine lv_istore_n (lv' := [(1, .int (v1 + v4)), (0, .ref (gA G 18)), (2, .int v2), (4, .int v4)]) hx hb dX0_breakPages_75 rfl hl (by decide) rfl (fun ls hl => ?_)
                refine lv_aload_n hx hb dX0_breakPages_76 rfl (lv_at hl 1 rfl) ?_
                refine va_get (ci := 0) (C := RX0) (T := TX0) (N := 5) (v := .ref (gA G 20)) hx hb hts inX0 hown hK.1 hP 18 (at_0 rfl) rfl 2 (by decide) w3 (fun _ h9 => h9) rfl dX0_breakPages_77 ?_
                refine lv_iload_n hx hb dX0_breakPages_80 rfl (lv_at hl 2 rfl) ?_
                refine lv_aload_n hx hb dX0_breakPages_81 rfl (lv_at hl 1 rfl) ?_
                refine va_get (ci := 0) (C := RX0) (T := TX0) (N := 5) (v := .int (τ 18 4)) hx hb hts inX0 hown hK.1 hP 18 (at_0 rfl) rfl 4 (by decide) w1 (fun _ h9 => h9) rfl dX0_breakPages_82 ?_
                refine lv_iconst (v := 1) hx hb dX0_breakPages_85 (by decide) ?_
                refine lv_isub hx hb dX0_breakPages_86 ?_
                obtain ⟨b6, hF⟩ := ite_some hF
                refine va_iast hx hb hK.1 hP (Dw.D hG) hS 20 0 (at_6 (rfl : kd 20 = 6) (rfl : ln 20 = 10)) rfl (inb_in b6) dX0_breakPages_87 (fun H locs hP _ hS => ?_)
                have hP : Pw G (up τ 20 v2.toNatClampNeg ((τ 18 4) - (1 : Int32))) H := Pw.of hP (set_6 (rfl : kd 20 = 6) (rfl : ln 20 = 10))
                refine lv_iinc (v := (v2 + (1 : Int32))) (lv' := [(2, .int (v2 + (1 : Int32))), (1, .int (v1 + v4)), (0, .ref (gA G 18)), (4, .int v4)]) hx hb dX0_breakPages_88 hl (k := 2) rfl rfl (by decide) rfl (fun ls hl => ?_)
                refine lv_goto (tgt := 9) hx hb dX0_breakPages_91 (by decide) ?_
                exact ih9 (v1 + v4) (v2 + (1 : Int32)) (up τ 20 v2.toNatClampNeg ((τ 18 4) - (1 : Int32))) _ _ hP hS ls (lv_sub hl [2, 1, 0] rfl) hF
              have J59 : ∀ (v2 : Int32) (v4 : Int32) (τ : St) (H : Heap) (locs : List Loc) (hP : Pw G τ H) (hS : va_S (AG G) s.heap H locs) (ls : Array Slot) (hl : lv_has ls 5 [(0, .ref (gA G 18)), (2, .int v2), (4, .int v4)]) (hF : f_X0_breakPages_59 (f_X0_breakPages_9 fl9) v2 v4 τ = some o), W p l e (headSpec wsX0_breakPages ({ frames := 2, cells := 0, slots := 0, locals := 43 })).room s m ([.ref (gA G 18)] : List Value).toArray below meth c H locs 0 0 (MQ below (qR G none o) ([.ref (gA G 18)] : List Value).toArray s 0 0 (AG G)) (F0 m 59 ls []) := by
                intro v2 v4 τ H locs hP hS ls hl hF
                rw [f_X0_breakPages_59_e] at hF
                refine lv_aload_n hx hb dX0_breakPages_59 rfl (lv_at hl 0 rfl) ?_
                refine lv_dup hx hb dX0_breakPages_60 rfl ?_
                refine va_get (ci := 0) (C := RX0) (T := TX0) (N := 5) (v := .int (τ 18 4)) hx hb hts inX0 hown hK.1 hP 18 (at_0 rfl) rfl 4 (by decide) w1 (fun _ h9 => h9) rfl dX0_breakPages_61 ?_
                refine lv_iconst (v := 1) hx hb dX0_breakPages_64 (by decide) ?_
                refine lv_iadd hx hb dX0_breakPages_65 ?_
                refine va_put (ci := 0) (C := RX0) (T := TX0) (N := 5) (v := .int ((τ 18 4) + (1 : Int32))) (ty := .int) hx hb hts inX0 tyX0 tyX0_ok nmX0 hown hK.1 hP (Dw.D hG) hS 18 (at_0 rfl) rfl 4 (by decide) w1 (fun _ h9 => h9) rfl (by decide +kernel) rfl rfl (Nat.le_of_ble_eq_true rfl) dX0_breakPages_66 (fun H locs hP _ hS => ?_)
                have hP := Pw.of hP (set_0_4 rfl)
                refine lv_iconst (v := 0) hx hb dX0_breakPages_69 (by decide) ?_
                refine lv_istore_n (lv' := [(1, .int (0 : Int32)), (0, .ref (gA G 18)), (2, .int v2), (4, .int v4)]) hx hb dX0_breakPages_70 rfl hl (by decide) rfl (fun ls hl => ?_)
                exact J71 (0 : Int32) v2 v4 (up τ 18 4 ((τ 18 4) + (1 : Int32))) _ _ hP hS ls (lv_sub hl [1, 0, 2, 3] rfl) hF
              refine lv_if_eq (tgt := 59) hx hb dX0_breakPages_47 (by decide) (fun c7 => ?_) (fun c7 => ?_)
              · have hF := ite_t c7 hF
                exact J59 v2 z0 τ _ _ hP hS ls (lv_sub hl [1, 3, 0] rfl) hF
              · have hF := ite_f c7 hF
                refine lv_iload_n hx hb dX0_breakPages_50 rfl (lv_at hl 2 rfl) ?_
                refine lv_iload hx hb dX0_breakPages_51 (lv_at hl 0 rfl) ?_
                refine lv_iadd hx hb dX0_breakPages_53 ?_
                refine lv_bipush (v := 30) hx hb dX0_breakPages_54 (by decide) ?_
                refine lv_icmp_le (tgt := 71) hx hb dX0_breakPages_56 (by decide) (fun c8 => ?_) (fun c8 => ?_)
                · have hF := ite_t c8 hF
                  exact J71 v1 v2 z0 τ _ _ hP hS ls (lv_sub hl [1, 2, 3, 0] rfl) hF
                · have hF := ite_f c8 hF
                  exact J59 v2 z0 τ _ _ hP hS ls (lv_sub hl [1, 3, 0] rfl) hF
            refine lv_ifnullN (tgt := 43) hx hb dX0_breakPages_33 (by decide) ?_
            refine lv_iconst (v := 0) hx hb dX0_breakPages_43 (by decide) ?_
            exact J44 v1 v2 (0 : Int32) τ _ _ hP hS ls (lv_sub hl [1, 2, 3] rfl) hF
          · have hF := oc_s hF
            have ki5 : kd i5 = 1 := q_X0_deedIn  h4
            refine W.eq (g2 := F0 m 31 ls [.ref (gA G i5)]) rfl ?_
            refine lv_astore_n (lv' := [(3, .ref (gA G i5)), (0, .ref (gA G 18)), (1, .int v1), (2, .int v2)]) hx hb dX0_breakPages_31 rfl hl (by decide) rfl (fun ls hl => ?_)
            refine lv_aload_n hx hb dX0_breakPages_32 rfl (lv_at hl 0 rfl) ?_
            have J44 : ∀ (v1 : Int32) (v2 : Int32) (z0 : Int32) (τ : St) (H : Heap) (locs : List Loc) (hP : Pw G τ H) (hS : va_S (AG G) s.heap H locs) (ls : Array Slot) (hl : lv_has ls 5 [(0, .ref (gA G 18)), (1, .int v1), (2, .int v2)]) (hF : f_X0_breakPages_44 (f_X0_breakPages_9 fl9) v1 v2 z0 τ = some o), W p l e (headSpec wsX0_breakPages ({ frames := 2, cells := 0, slots := 0, locals := 43 })).room s m ([.ref (gA G 18)] : List Value).toArray below meth c H locs 0 0 (MQ below (qR G none o) ([.ref (gA G 18)] : List Value).toArray s 0 0 (AG G)) (F0 m 44 ls [.int z0]) := by
              intro v1 v2 z0 τ H locs hP hS ls hl hF
              rw [f_X0_breakPages_44_e] at hF
              refine lv_istore (lv' := [(4, .int z0), (0, .ref (gA G 18)), (1, .int v1), (2, .int v2)]) hx hb dX0_breakPages_44 hl (by decide) rfl (fun ls hl => ?_)
              refine lv_iload_n hx hb dX0_breakPages_46 rfl (lv_at hl 3 rfl) ?_
              have J71 : ∀ (v1 : Int32) (v2 : Int32) (v4 : Int32) (τ : St) (H : Heap) (locs : List Loc) (hP : Pw G τ H) (hS : va_S (AG G) s.heap H locs) (ls : Array Slot) (hl : lv_has ls 5 [(0, .ref (gA G 18)), (1, .int v1), (2, .int v2), (4, .int v4)]) (hF : f_X0_breakPages_71 (f_X0_breakPages_9 fl9) v1 v2 v4 τ = some o), W p l e (headSpec wsX0_breakPages ({ frames := 2, cells := 0, slots := 0, locals := 43 })).room s m ([.ref (gA G 18)] : List Value).toArray below meth c H locs 0 0 (MQ below (qR G none o) ([.ref (gA G 18)] : List Value).toArray s 0 0 (AG G)) (F0 m 71 ls []) := by
                intro v1 v2 v4 τ H locs hP hS ls hl hF
                rw [f_X0_breakPages_71_e] at hF
                refine lv_iload_n hx hb dX0_breakPages_71 rfl (lv_at hl 1 rfl) ?_
                refine lv_iload hx hb dX0_breakPages_72 (lv_at hl 3 rfl) ?_
                refine lv_iadd hx hb dX0_breakPages_74 ?_
                refine lv_istore_n (lv' := [(1, .int (v1 + v4)), (0, .ref (gA G 18)), (2, .int v2), (4, .int v4)]) hx hb dX0_breakPages_75 rfl hl (by decide) rfl (fun ls hl => ?_)
                refine lv_aload_n hx hb dX0_breakPages_76 rfl (lv_at hl 1 rfl) ?_
                refine va_get (ci := 0) (C := RX0) (T := TX0) (N := 5) (v := .ref (gA G 20)) hx hb hts inX0 hown hK.1 hP 18 (at_0 rfl) rfl 2 (by decide) w3 (fun _ h9 => h9) rfl dX0_breakPages_77 ?_
                refine lv_iload_n hx hb dX0_breakPages_80 rfl (lv_at hl 2 rfl) ?_
                refine lv_aload_n hx hb dX0_breakPages_81 rfl (lv_at hl 1 rfl) ?_
                refine va_get (ci := 0) (C := RX0) (T := TX0) (N := 5) (v := .int (τ 18 4)) hx hb hts inX0 hown hK.1 hP 18 (at_0 rfl) rfl 4 (by decide) w1 (fun _ h9 => h9) rfl dX0_breakPages_82 ?_
                refine lv_iconst (v := 1) hx hb dX0_breakPages_85 (by decide) ?_
                refine lv_isub hx hb dX0_breakPages_86 ?_
                obtain ⟨b9, hF⟩ := ite_some hF
                refine va_iast hx hb hK.1 hP (Dw.D hG) hS 20 0 (at_6 (rfl : kd 20 = 6) (rfl : ln 20 = 10)) rfl (inb_in b9) dX0_breakPages_87 (fun H locs hP _ hS => ?_)
                have hP : Pw G (up τ 20 v2.toNatClampNeg ((τ 18 4) - (1 : Int32))) H := Pw.of hP (set_6 (rfl : kd 20 = 6) (rfl : ln 20 = 10))
                refine lv_iinc (v := (v2 + (1 : Int32))) (lv' := [(2, .int (v2 + (1 : Int32))), (1, .int (v1 + v4)), (0, .ref (gA G 18)), (4, .int v4)]) hx hb dX0_breakPages_88 hl (k := 2) rfl rfl (by decide) rfl (fun ls hl => ?_)
                refine lv_goto (tgt := 9) hx hb dX0_breakPages_91 (by decide) ?_
                exact ih9 (v1 + v4) (v2 + (1 : Int32)) (up τ 20 v2.toNatClampNeg ((τ 18 4) - (1 : Int32))) _ _ hP hS ls (lv_sub hl [2, 1, 0] rfl) hF
              have J59 : ∀ (v2 : Int32) (v4 : Int32) (τ : St) (H : Heap) (locs : List Loc) (hP : Pw G τ H) (hS : va_S (AG G) s.heap H locs) (ls : Array Slot) (hl : lv_has ls 5 [(0, .ref (gA G 18)), (2, .int v2), (4, .int v4)]) (hF : f_X0_breakPages_59 (f_X0_breakPages_9 fl9) v2 v4 τ = some o), W p l e (headSpec wsX0_breakPages ({ frames := 2, cells := 0, slots := 0, locals := 43 })).room s m ([.ref (gA G 18)] : List Value).toArray below meth c H locs 0 0 (MQ below (qR G none o) ([.ref (gA G 18)] : List Value).toArray s 0 0 (AG G)) (F0 m 59 ls []) := by
                intro v2 v4 τ H locs hP hS ls hl hF
                rw [f_X0_breakPages_59_e] at hF
                refine lv_aload_n hx hb dX0_breakPages_59 rfl (lv_at hl 0 rfl) ?_
                refine lv_dup hx hb dX0_breakPages_60 rfl ?_
                refine va_get (ci := 0) (C := RX0) (T := TX0) (N := 5) (v := .int (τ 18 4)) hx hb hts inX0 hown hK.1 hP 18 (at_0 rfl) rfl 4 (by decide) w1 (fun _ h9 => h9) rfl dX0_breakPages_61 ?_
                refine lv_iconst (v := 1) hx hb dX0_breakPages_64 (by decide) ?_
                refine lv_iadd hx hb dX0_breakPages_65 ?_
                refine va_put (ci := 0) (C := RX0) (T := TX0) (N := 5) (v := .int ((τ 18 4) + (1 : Int32))) (ty := .int) hx hb hts inX0 tyX0 tyX0_ok nmX0 hown hK.1 hP (Dw.D hG) hS 18 (at_0 rfl) rfl 4 (by decide) w1 (fun _ h9 => h9) rfl (by decide +kernel) rfl rfl (Nat.le_of_ble_eq_true rfl) dX0_breakPages_66 (fun H locs hP _ hS => ?_)
                have hP := Pw.of hP (set_0_4 rfl)
                refine lv_iconst (v := 0) hx hb dX0_breakPages_69 (by decide) ?_
                refine lv_istore_n (lv' := [(1, .int (0 : Int32)), (0, .ref (gA G 18)), (2, .int v2), (4, .int v4)]) hx hb dX0_breakPages_70 rfl hl (by decide) rfl (fun ls hl => ?_)
                exact J71 (0 : Int32) v2 v4 (up τ 18 4 ((τ 18 4) + (1 : Int32))) _ _ hP hS ls (lv_sub hl [1, 0, 2, 3] rfl) hF
              refine lv_if_eq (tgt := 59) hx hb dX0_breakPages_47 (by decide) (fun c10 => ?_) (fun c10 => ?_)
              · have hF := ite_t c10 hF
                exact J59 v2 z0 τ _ _ hP hS ls (lv_sub hl [1, 3, 0] rfl) hF
              · have hF := ite_f c10 hF
                refine lv_iload_n hx hb dX0_breakPages_50 rfl (lv_at hl 2 rfl) ?_
                refine lv_iload hx hb dX0_breakPages_51 (lv_at hl 0 rfl) ?_
                refine lv_iadd hx hb dX0_breakPages_53 ?_
                refine lv_bipush (v := 30) hx hb dX0_breakPages_54 (by decide) ?_
                refine lv_icmp_le (tgt := 71) hx hb dX0_breakPages_56 (by decide) (fun c11 => ?_) (fun c11 => ?_)
                · have hF := ite_t c11 hF
                  exact J71 v1 v2 z0 τ _ _ hP hS ls (lv_sub hl [1, 2, 3, 0] rfl) hF
                · have hF := ite_f c11 hF
                  exact J59 v2 z0 τ _ _ hP hS ls (lv_sub hl [1, 3, 0] rfl) hF
            refine lv_ifnull hx hb dX0_breakPages_33 ?_
            refine lv_aload_n hx hb dX0_breakPages_36 rfl (lv_at hl 0 rfl) ?_
            refine k_VNv (As := []) (rest := []) Z hK hP hS (t_X1_size l G hG i5 ki5 τ) ⟨va_cnB 0 hts gX0_breakPages_X1_size_n58 rfl rfl rfl w5n w4 (by decide +kernel) ⟨Nat.le_of_ble_eq_true rfl, Nat.le_of_ble_eq_true rfl⟩, w6, w7⟩ (at_1 ki5) rfl rfl hl.1 rfl (Nat.le_of_ble_eq_true rfl) ⟨Nat.zero_le _, Nat.zero_le _⟩ dX0_breakPages_37 (fun H locs hP hS => ?_)
            refine lv_goto (tgt := 44) hx hb dX0_breakPages_40 (by decide) ?_
            exact J44 v1 v2 (f_X1_size i5 τ) τ _ _ hP hS ls (lv_sub hl [1, 2, 3] rfl) hF
  refine lv_istore_n (lv' := [(2, .int (0 : Int32)), (1, .int (0 : Int32)), (0, .ref (gA G 18))]) hx hb dX0_breakPages_8 rfl hl (by decide) rfl (fun ls hl => ?_)
  exact J9 fu (0 : Int32) (0 : Int32) (up σ 18 4 (0 : Int32)) _ _ hP hS ls (lv_sub hl [2, 1, 0] rfl) hF
def f_X0_print_37 (rec7 : Int32 → St → Option St) (v1 : Int32) (τ : St) : Option St := (rec7 (v1 + (1 : Int32)) τ)
theorem f_X0_print_37_e {rec7 : Int32 → St → Option St} {v1 : Int32} {τ : St} : f_X0_print_37 rec7 v1 τ = (rec7 (v1 + (1 : Int32)) τ) := rfl
def f_X0_print_7 : Nat → (Int32 → St → Option St)
  | 0 => fun _ _ => none
  | fl + 1 => fun v1 τ => (if (τ 21 2) ≤ v1 then (ob (f_X0_breakPages τ) (fun q2 => some q2)) else (ob (f_X7_toldAt 21 v1 τ) (fun q4 => oc q4 ((f_X0_print_37 (f_X0_print_7 fl) v1 τ)) (fun i6 => (ob (f_X0_setIn v1 i6 τ) (fun q7 => f_X0_print_37 (f_X0_print_7 fl) v1 q7))))))
theorem f_X0_print_7_s (fl : Nat) {v1 : Int32} {τ : St} : f_X0_print_7 (fl + 1) v1 τ = (if (τ 21 2) ≤ v1 then (ob (f_X0_breakPages τ) (fun q2 => some q2)) else (ob (f_X7_toldAt 21 v1 τ) (fun q4 => oc q4 ((f_X0_print_37 (f_X0_print_7 fl) v1 τ)) (fun i6 => (ob (f_X0_setIn v1 i6 τ) (fun q7 => f_X0_print_37 (f_X0_print_7 fl) v1 q7)))))) := rfl
def f_X0_print (σ : St) : Option St := (f_X0_print_7 fu (0 : Int32) (up σ 18 3 (0 : Int32)))
set_option maxRecDepth 100000 in
set_option maxHeartbeats 4000000 in
theorem t_X0_print (l : Launch) (G : GT) (hG : Dw G) (σ : St) (o : St) (hF : f_X0_print σ = some o) : Ct l G yX0_print wsX0_print 4 87 [.ref (gA G 18)] σ none o := by
  refine Met.ofW (cc := cX0_print) (maxL := 3) (ret := none) (by decide) rfl ?_
  intro p e s m args below meth c s₁ B hml hv
  obtain ⟨rfl, hP, hK⟩ := hv
  have hx := B.exec
  have hb := B.bytes
  have hr := B.returns
  have hts := atoms_spec (ws := wsX0_print) B.pre
  have hown : s.vm.findClass RX0 = some m.cls := findClass_of_methodNamed B.named
  have hlocks := B.notSynchronized
  have Z : CallFix p m c cX0_print 3 s _ wsX0_print RX0 := ⟨hx, hb, hml, hown, hts⟩
  have hS : va_S (AG G) s.heap s.heap [] := va_S.rf
  have inX0 : ∀ w ∈ u_ws RX0 TX0 5, w ∈ wsX0_print := by decide +kernel
  have inX7 : ∀ w ∈ u_ws RX7 TX7 4, w ∈ wsX0_print := by decide +kernel
  have w1 := hts (.fieldLink RX0 25 "AlmanacOfTheYearGone$Almanac" "printed" "I") (by decide +kernel)
  have w2 := hts (.fieldLink RX0 12 "AlmanacOfTheYearGone$Almanac" "year" "LAlmanacOfTheYearGone$Year;") (by decide +kernel)
  have w3n : va_Nw (.fieldLinkNest "AlmanacOfTheYearGone$Almanac" 32 "AlmanacOfTheYearGone$Year" "deedCount" "I" "AlmanacOfTheYearGone") s := hK.2 _ (List.mem_of_getElem? (i := 25) rfl)
  have w3 := va_Nw.use (A := [.ref (gA G 18)].toArray) rfl w3n
  have w4 := hts (.initialized RX7) (by decide +kernel)
  have w5n : va_Nw (.methodLinkNest "AlmanacOfTheYearGone$Almanac" 35 ⟨"AlmanacOfTheYearGone$Year", "toldAt", "(I)LAlmanacOfTheYearGone$Deed;"⟩ "AlmanacOfTheYearGone") s := hK.2 _ (List.mem_of_getElem? (i := 67) rfl)
  have w5 := va_Nw.use (A := [.ref (gA G 18)].toArray) rfl w5n
  have w6 := hts (.instanceMethod yX7_toldAt) (by decide +kernel)
  have w7 := hts (.selects RX7 yX7_toldAt yX7_toldAt) (by decide +kernel)
  have hl := lv_entry ([.ref (gA G 18)]) (n := 3) (Nat.le_of_ble_eq_true rfl)
  rw [lg_entry_eq]
  generalize (lg_sl ([.ref (gA G 18)]) ++ List.replicate (3 - (lg_sl ([.ref (gA G 18)])).length) Slot.unset).toArray = ls at hl ⊢
  have hl : lv_has ls 3 [(0, .ref (gA G 18))] := hl
  unfold f_X0_print at hF
  refine lv_aload_n hx hb dX0_print_0 rfl (lv_at hl 0 rfl) ?_
  refine lv_iconst (v := 0) hx hb dX0_print_1 (by decide) ?_
  refine va_put (ci := 0) (C := RX0) (T := TX0) (N := 5) (v := .int (0 : Int32)) (ty := .int) hx hb hts inX0 tyX0 tyX0_ok nmX0 hown hK.1 hP (Dw.D hG) hS 18 (at_0 rfl) rfl 3 (by decide) w1 (fun _ h9 => h9) rfl (by decide +kernel) rfl rfl (Nat.le_of_ble_eq_true rfl) dX0_print_2 (fun H locs hP _ hS => ?_)
  have hP := Pw.of hP (set_0_3 rfl)
  refine lv_iconst (v := 0) hx hb dX0_print_5 (by decide) ?_
  have J7 : ∀ (fl : Nat) (v1 : Int32) (τ : St) (H : Heap) (locs : List Loc) (hP : Pw G τ H) (hS : va_S (AG G) s.heap H locs) (ls : Array Slot) (hl : lv_has ls 3 [(0, .ref (gA G 18)), (1, .int v1)]) (hF : f_X0_print_7 fl v1 τ = some o), W p l e (headSpec wsX0_print ({ frames := 4, cells := 0, slots := 0, locals := 87 })).room s m ([.ref (gA G 18)] : List Value).toArray below meth c H locs 0 0 (MQ below (qR G none o) ([.ref (gA G 18)] : List Value).toArray s 0 0 (AG G)) (F0 m 7 ls []) := by
    intro fl7
    induction fl7 with
    | zero => intro v1 τ H locs hP hS ls hl hF; cases hF
    | succ fl7 ih7 =>
      intro v1 τ H locs hP hS ls hl hF
      rw [f_X0_print_7_s] at hF
      refine lv_iload_n hx hb dX0_print_7 rfl (lv_at hl 1 rfl) ?_
      refine lv_aload_n hx hb dX0_print_8 rfl (lv_at hl 0 rfl) ?_
      refine va_get (ci := 0) (C := RX0) (T := TX0) (N := 5) (v := .ref (gA G 21)) hx hb hts inX0 hown hK.1 hP 18 (at_0 rfl) rfl 0 (by decide) w2 (fun _ h9 => h9) rfl dX0_print_9 ?_
      refine va_getN (ci := 3) (C := RX7) (T := TX7) (N := 4) (v := .int (τ 21 2)) hx hb hts inX7 hown hK.1 hP 21 (at_3 (rfl : kd 21 = 3)) rfl 2 (by decide) w3 (fun _ h9 => h9) rfl dX0_print_12 ?_
      refine lv_icmp_ge (tgt := 43) hx hb dX0_print_15 (by decide) (fun c1 => ?_) (fun c1 => ?_)
      · have hF := ite_t c1 hF
        refine lv_aload_n hx hb dX0_print_43 rfl (lv_at hl 0 rfl) ?_
        obtain ⟨q2, h3, hF⟩ := ob_some hF
        refine k_V0 (As := []) (rest := []) Z hK hP hS (t_X0_breakPages l G hG τ _ h3) (cwV 0 hts gX0_print_X0_breakPages rfl rfl rfl (by decide +kernel) ⟨Nat.le_of_ble_eq_true rfl, Nat.le_of_ble_eq_true rfl⟩) (at_0 rfl) rfl rfl hl.1 rfl (Nat.le_of_ble_eq_true rfl) ⟨Nat.zero_le _, Nat.zero_le _⟩ dX0_print_44 (fun H locs hP hS => ?_)
        exact e_vS hx hb hr hP hS hlocks dX0_print_47 hF
      · have hF := ite_f c1 hF
        refine lv_aload_n hx hb dX0_print_18 rfl (lv_at hl 0 rfl) ?_
        refine va_get (ci := 0) (C := RX0) (T := TX0) (N := 5) (v := .ref (gA G 21)) hx hb hts inX0 hown hK.1 hP 18 (at_0 rfl) rfl 0 (by decide) w2 (fun _ h9 => h9) rfl dX0_print_19 ?_
        refine lv_iload_n hx hb dX0_print_22 rfl (lv_at hl 1 rfl) ?_
        obtain ⟨q4, h5, hF⟩ := ob_some hF
        refine k_VNv (As := [.int v1]) (rest := []) Z hK hP hS (t_X7_toldAt l G hG 21 v1 (rfl : kd 21 = 3) τ _ h5) ⟨va_cnB 1 hts gX0_print_X7_toldAt_n35 rfl rfl rfl w5n w4 (by decide +kernel) ⟨Nat.le_of_ble_eq_true rfl, Nat.le_of_ble_eq_true rfl⟩, w6, w7⟩ (at_3 (rfl : kd 21 = 3)) rfl rfl hl.1 rfl (Nat.le_of_ble_eq_true rfl) ⟨Nat.zero_le _, Nat.zero_le _⟩ dX0_print_23 (fun H locs hP hS => ?_)
        rcases q4 with _ | i6
        · have hF := oc_n hF
          refine W.eq (g2 := F0 m 26 ls [.null]) rfl ?_
          refine lv_astore_nN (lv' := [(2, .null), (0, .ref (gA G 18)), (1, .int v1)]) hx hb dX0_print_26 rfl hl (by decide) rfl (fun ls hl => ?_)
          refine lv_aload_nN hx hb dX0_print_27 rfl (lv_at hl 0 rfl) ?_
          have J37 : ∀ (v1 : Int32) (τ : St) (H : Heap) (locs : List Loc) (hP : Pw G τ H) (hS : va_S (AG G) s.heap H locs) (ls : Array Slot) (hl : lv_has ls 3 [(0, .ref (gA G 18)), (1, .int v1)]) (hF : f_X0_print_37 (f_X0_print_7 fl7) v1 τ = some o), W p l e (headSpec wsX0_print ({ frames := 4, cells := 0, slots := 0, locals := 87 })).room s m ([.ref (gA G 18)] : List Value).toArray below meth c H locs 0 0 (MQ below (qR G none o) ([.ref (gA G 18)] : List Value).toArray s 0 0 (AG G)) (F0 m 37 ls []) := by
            intro v1 τ H locs hP hS ls hl hF
            rw [f_X0_print_37_e] at hF
            refine lv_iinc (v := (v1 + (1 : Int32))) (lv' := [(1, .int (v1 + (1 : Int32))), (0, .ref (gA G 18))]) hx hb dX0_print_37 hl (k := 1) rfl rfl (by decide) rfl (fun ls hl => ?_)
            refine lv_goto (tgt := 7) hx hb dX0_print_40 (by decide) ?_
            exact ih7 (v1 + (1 : Int32)) τ _ _ hP hS ls (lv_sub hl [1, 0] rfl) hF
          refine lv_ifnullN (tgt := 37) hx hb dX0_print_28 (by decide) ?_
          exact J37 v1 τ _ _ hP hS ls (lv_sub hl [1, 2] rfl) hF
        · have hF := oc_s hF
          have ki6 : kd i6 = 1 := q_X7_toldAt (rfl : kd 21 = 3) h5
          refine W.eq (g2 := F0 m 26 ls [.ref (gA G i6)]) rfl ?_
          refine lv_astore_n (lv' := [(2, .ref (gA G i6)), (0, .ref (gA G 18)), (1, .int v1)]) hx hb dX0_print_26 rfl hl (by decide) rfl (fun ls hl => ?_)
          refine lv_aload_n hx hb dX0_print_27 rfl (lv_at hl 0 rfl) ?_
          have J37 : ∀ (v1 : Int32) (τ : St) (H : Heap) (locs : List Loc) (hP : Pw G τ H) (hS : va_S (AG G) s.heap H locs) (ls : Array Slot) (hl : lv_has ls 3 [(0, .ref (gA G 18)), (1, .int v1)]) (hF : f_X0_print_37 (f_X0_print_7 fl7) v1 τ = some o), W p l e (headSpec wsX0_print ({ frames := 4, cells := 0, slots := 0, locals := 87 })).room s m ([.ref (gA G 18)] : List Value).toArray below meth c H locs 0 0 (MQ below (qR G none o) ([.ref (gA G 18)] : List Value).toArray s 0 0 (AG G)) (F0 m 37 ls []) := by
            intro v1 τ H locs hP hS ls hl hF
            rw [f_X0_print_37_e] at hF
            refine lv_iinc (v := (v1 + (1 : Int32))) (lv' := [(1, .int (v1 + (1 : Int32))), (0, .ref (gA G 18))]) hx hb dX0_print_37 hl (k := 1) rfl rfl (by decide) rfl (fun ls hl => ?_)
            refine lv_goto (tgt := 7) hx hb dX0_print_40 (by decide) ?_
            exact ih7 (v1 + (1 : Int32)) τ _ _ hP hS ls (lv_sub hl [1, 0] rfl) hF
          refine lv_ifnull hx hb dX0_print_28 ?_
          refine lv_aload_n hx hb dX0_print_31 rfl (lv_at hl 1 rfl) ?_
          refine lv_iload_n hx hb dX0_print_32 rfl (lv_at hl 2 rfl) ?_
          refine lv_aload_n hx hb dX0_print_33 rfl (lv_at hl 0 rfl) ?_
          obtain ⟨q7, h8, hF⟩ := ob_some hF
          refine k_V0 (As := [.int v1, .ref (gA G i6)]) (rest := []) Z hK hP hS (t_X0_setIn l G hG v1 i6 ki6 τ _ h8) (cwV 2 hts gX0_print_X0_setIn rfl rfl rfl (by decide +kernel) ⟨Nat.le_of_ble_eq_true rfl, Nat.le_of_ble_eq_true rfl⟩) (at_0 rfl) rfl rfl hl.1 rfl (Nat.le_of_ble_eq_true rfl) ⟨Nat.zero_le _, Nat.zero_le _⟩ dX0_print_34 (fun H locs hP hS => ?_)
          exact J37 v1 q7 _ _ hP hS ls (lv_sub hl [1, 2] rfl) hF
  refine lv_istore_n (lv' := [(1, .int (0 : Int32)), (0, .ref (gA G 18))]) hx hb dX0_print_6 rfl hl (by decide) rfl (fun ls hl => ?_)
  exact J7 fu (0 : Int32) (up σ 18 3 (0 : Int32)) _ _ hP hS ls (lv_sub hl [1, 0] rfl) hF
