def f_X2_fewestStruck_9 (i0 : Nat) (σ : St) : Nat → (Int32 → Int32 → Option Int32)
  | 0 => fun _ _ => none
  | fl + 1 => fun v1 v2 => (if (10 : Int32) ≤ v2 then (some v1) else (ob (f_X2_dayToldMost i0 v2 σ) (fun q2 => ob (f_X2_timesTold i0 v2 q2 σ) (fun q4 => (f_X2_fewestStruck_9 i0 σ fl) (v1 - q4) (v2 + (1 : Int32))))))
theorem f_X2_fewestStruck_9_s {i0 : Nat} {σ : St} (fl : Nat) {v1 : Int32} {v2 : Int32} : f_X2_fewestStruck_9 i0 σ (fl + 1) v1 v2 = (if (10 : Int32) ≤ v2 then (some v1) else (ob (f_X2_dayToldMost i0 v2 σ) (fun q2 => ob (f_X2_timesTold i0 v2 q2 σ) (fun q4 => (f_X2_fewestStruck_9 i0 σ fl) (v1 - q4) (v2 + (1 : Int32)))))) := rfl
def f_X2_fewestStruck (i0 : Nat) (σ : St) : Option Int32 := (f_X2_fewestStruck_9 i0 σ fu ((σ i0 1) / (2 : Int32)) (0 : Int32))
set_option maxRecDepth 100000 in
set_option maxHeartbeats 4000000 in
theorem t_X2_fewestStruck (l : Launch) (G : GT) (hG : Dw G) (i0 : Nat) (hk0 : kd i0 = 2) (σ : St) (o : Int32) (hF : f_X2_fewestStruck i0 σ = some o) : Ct l G yX2_fewestStruck wsX2_fewestStruck 3 71 [.ref (gA G i0)] σ (some (.int o)) σ := by
  refine Met.ofW (cc := cX2_fewestStruck) (maxL := 3) (ret := (some .int)) (by decide) rfl ?_
  intro p e s m args below meth c s₁ B hml hv
  obtain ⟨rfl, hP, hK⟩ := hv
  have hx := B.exec
  have hb := B.bytes
  have hr := B.returns
  have hts := atoms_spec (ws := wsX2_fewestStruck) B.pre
  have hown : s.vm.findClass RX2 = some m.cls := findClass_of_methodNamed B.named
  have hlocks := B.notSynchronized
  have Z : CallFix p m c cX2_fewestStruck 3 s _ wsX2_fewestStruck RX2 := ⟨hx, hb, hml, hown, hts⟩
  have hS : va_S (AG G) s.heap s.heap [] := va_S.rf
  have inX5 : ∀ w ∈ u_ws RX5 TX5 5, w ∈ wsX2_fewestStruck := by decide +kernel
  have w1n : va_Nw (.fieldLinkNest "AlmanacOfTheYearGone$Diary" 9 "AlmanacOfTheYearGone$Shelf" "length" "I" "AlmanacOfTheYearGone") s := hK.2 _ (List.mem_of_getElem? (i := 1) rfl)
  have w1 := va_Nw.use (A := [.ref (gA G i0)].toArray) rfl w1n
  have hl := lv_entry ([.ref (gA G i0)]) (n := 3) (Nat.le_of_ble_eq_true rfl)
  rw [lg_entry_eq]
  generalize (lg_sl ([.ref (gA G i0)]) ++ List.replicate (3 - (lg_sl ([.ref (gA G i0)])).length) Slot.unset).toArray = ls at hl ⊢
  have hl : lv_has ls 3 [(0, .ref (gA G i0))] := hl
  unfold f_X2_fewestStruck at hF
  refine lv_aload_n hx hb dX2_fewestStruck_0 rfl (lv_at hl 0 rfl) ?_
  refine va_getN (ci := 2) (C := RX5) (T := TX5) (N := 5) (v := .int (σ i0 1)) hx hb hts inX5 hown hK.1 hP i0 (at_2 hk0) rfl 1 (by decide) w1 (fun _ h9 => h9) rfl dX2_fewestStruck_1 ?_
  refine lv_iconst (v := 2) hx hb dX2_fewestStruck_4 (by decide) ?_
  refine lv_idiv hx hb dX2_fewestStruck_5 (by decide) ?_
  refine lv_istore_n (lv' := [(1, .int ((σ i0 1) / (2 : Int32))), (0, .ref (gA G i0))]) hx hb dX2_fewestStruck_6 rfl hl (by decide) rfl (fun ls hl => ?_)
  refine lv_iconst (v := 0) hx hb dX2_fewestStruck_7 (by decide) ?_
  have J9 : ∀ (fl : Nat) (v1 : Int32) (v2 : Int32) (H : Heap) (locs : List Loc) (hP : Pw G σ H) (hS : va_S (AG G) s.heap H locs) (ls : Array Slot) (hl : lv_has ls 3 [(0, .ref (gA G i0)), (1, .int v1), (2, .int v2)]) (hF : f_X2_fewestStruck_9 i0 σ fl v1 v2 = some o), W p l e (headSpec wsX2_fewestStruck ({ frames := 3, cells := 0, slots := 0, locals := 71 })).room s m ([.ref (gA G i0)] : List Value).toArray below meth c H locs 0 0 (MQ below (qR G (some (.int o)) σ) ([.ref (gA G i0)] : List Value).toArray s 0 0 (AG G)) (F0 m 9 ls []) := by
    intro fl9
    induction fl9 with
    | zero => intro v1 v2 H locs hP hS ls hl hF; cases hF
    | succ fl9 ih9 =>
      intro v1 v2 H locs hP hS ls hl hF
      rw [f_X2_fewestStruck_9_s] at hF
      refine lv_iload_n hx hb dX2_fewestStruck_9 rfl (lv_at hl 2 rfl) ?_
      refine lv_bipush (v := 10) hx hb dX2_fewestStruck_10 (by decide) ?_
      refine lv_icmp_ge (tgt := 34) hx hb dX2_fewestStruck_12 (by decide) (fun c1 => ?_) (fun c1 => ?_)
      · have hF := ite_t c1 hF
        refine lv_iload_n hx hb dX2_fewestStruck_34 rfl (lv_at hl 1 rfl) ?_
        exact e_iP hx hb hr hP hS hlocks dX2_fewestStruck_35 hF
      · have hF := ite_f c1 hF
        refine lv_iload_n hx hb dX2_fewestStruck_15 rfl (lv_at hl 1 rfl) ?_
        refine lv_aload_n hx hb dX2_fewestStruck_16 rfl (lv_at hl 0 rfl) ?_
        refine lv_iload_n hx hb dX2_fewestStruck_17 rfl (lv_at hl 2 rfl) ?_
        refine lv_aload_n hx hb dX2_fewestStruck_18 rfl (lv_at hl 0 rfl) ?_
        refine lv_iload_n hx hb dX2_fewestStruck_19 rfl (lv_at hl 2 rfl) ?_
        obtain ⟨q2, h3, hF⟩ := ob_some hF
        refine k_Sv (As := [.ref (gA G i0), .int v2]) (rest := [.int v2, .ref (gA G i0), .int v1]) Z hK hP hS (t_X2_dayToldMost l G hG i0 v2 hk0 σ _ h3) (va_cwS 2 hts gX2_fewestStruck_X2_dayToldMost rfl rfl rfl (by decide +kernel) ⟨Nat.le_of_ble_eq_true rfl, Nat.le_of_ble_eq_true rfl⟩) rfl hl.1 rfl (Nat.le_of_ble_eq_true rfl) ⟨Nat.zero_le _, Nat.zero_le _⟩ dX2_fewestStruck_20 (fun H locs hP hS => ?_)
        obtain ⟨q4, h5, hF⟩ := ob_some hF
        refine k_Sv (As := [.ref (gA G i0), .int v2, .int q2]) (rest := [.int v1]) Z hK hP hS (t_X2_timesTold l G hG i0 v2 q2 hk0 σ _ h5) (va_cwS 3 hts gX2_fewestStruck_X2_timesTold rfl rfl rfl (by decide +kernel) ⟨Nat.le_of_ble_eq_true rfl, Nat.le_of_ble_eq_true rfl⟩) rfl hl.1 rfl (Nat.le_of_ble_eq_true rfl) ⟨Nat.zero_le _, Nat.zero_le _⟩ dX2_fewestStruck_23 (fun H locs hP hS => ?_)
        refine lv_isub hx hb dX2_fewestStruck_26 ?_
        refine lv_istore_n (lv' := [(1, .int (v1 - q4)), (0, .ref (gA G i0)), (2, .int v2)]) hx hb dX2_fewestStruck_27 rfl hl (by decide) rfl (fun ls hl => ?_)
        refine lv_iinc (v := (v2 + (1 : Int32))) (lv' := [(2, .int (v2 + (1 : Int32))), (1, .int (v1 - q4)), (0, .ref (gA G i0))]) hx hb dX2_fewestStruck_28 hl (k := 2) rfl rfl (by decide) rfl (fun ls hl => ?_)
        refine lv_goto (tgt := 9) hx hb dX2_fewestStruck_31 (by decide) ?_
        exact ih9 (v1 - q4) (v2 + (1 : Int32)) _ _ hP hS ls (lv_sub hl [2, 1, 0] rfl) hF
  refine lv_istore_n (lv' := [(2, .int (0 : Int32)), (1, .int ((σ i0 1) / (2 : Int32))), (0, .ref (gA G i0))]) hx hb dX2_fewestStruck_8 rfl hl (by decide) rfl (fun ls hl => ?_)
  exact J9 fu ((σ i0 1) / (2 : Int32)) (0 : Int32) _ _ hP hS ls (lv_sub hl [2, 1, 0] rfl) hF
def f_X2_offTheirDay_46 (i0 : Nat) (i1 : Nat) (σ : St) (rec4 : Int32 → Int32 → Option Int32) (v2 : Int32) (v3 : Int32) : Option Int32 := (rec4 v2 (v3 + (2 : Int32)))
theorem f_X2_offTheirDay_46_e {i0 : Nat} {i1 : Nat} {σ : St} {rec4 : Int32 → Int32 → Option Int32} {v2 : Int32} {v3 : Int32} : f_X2_offTheirDay_46 i0 i1 σ rec4 v2 v3 = (rec4 v2 (v3 + (2 : Int32))) := rfl
def f_X2_offTheirDay_4 (i0 : Nat) (i1 : Nat) (σ : St) : Nat → (Int32 → Int32 → Option Int32)
  | 0 => fun _ _ => none
  | fl + 1 => fun v2 v3 => (if (σ i0 1) ≤ v3 then (some v2) else (ob (f_X5_cell i0 v3 σ) (fun q2 => ob (f_X7_deedAt i1 q2 σ) (fun q4 => oc q4 ((f_X2_offTheirDay_46 i0 i1 σ (f_X2_offTheirDay_4 i0 i1 σ fl) v2 v3)) (fun i6 => (ob (f_X5_cell i0 (v3 + (1 : Int32)) σ) (fun q7 => if (σ i6 2) = q7 then f_X2_offTheirDay_46 i0 i1 σ (f_X2_offTheirDay_4 i0 i1 σ fl) v2 v3 else (f_X2_offTheirDay_46 i0 i1 σ (f_X2_offTheirDay_4 i0 i1 σ fl) (v2 + (1 : Int32)) v3))))))))
theorem f_X2_offTheirDay_4_s {i0 : Nat} {i1 : Nat} {σ : St} (fl : Nat) {v2 : Int32} {v3 : Int32} : f_X2_offTheirDay_4 i0 i1 σ (fl + 1) v2 v3 = (if (σ i0 1) ≤ v3 then (some v2) else (ob (f_X5_cell i0 v3 σ) (fun q2 => ob (f_X7_deedAt i1 q2 σ) (fun q4 => oc q4 ((f_X2_offTheirDay_46 i0 i1 σ (f_X2_offTheirDay_4 i0 i1 σ fl) v2 v3)) (fun i6 => (ob (f_X5_cell i0 (v3 + (1 : Int32)) σ) (fun q7 => if (σ i6 2) = q7 then f_X2_offTheirDay_46 i0 i1 σ (f_X2_offTheirDay_4 i0 i1 σ fl) v2 v3 else (f_X2_offTheirDay_46 i0 i1 σ (f_X2_offTheirDay_4 i0 i1 σ fl) (v2 + (1 : Int32)) v3)))))))) := rfl
def f_X2_offTheirDay (i0 : Nat) (i1 : Nat) (σ : St) : Option Int32 := (f_X2_offTheirDay_4 i0 i1 σ fu (0 : Int32) (0 : Int32))
set_option maxRecDepth 100000 in
set_option maxHeartbeats 4000000 in
theorem t_X2_offTheirDay (l : Launch) (G : GT) (hG : Dw G) (i0 : Nat) (i1 : Nat) (hk0 : kd i0 = 2) (hk1 : kd i1 = 3) (σ : St) (o : Int32) (hF : f_X2_offTheirDay i0 i1 σ = some o) : Ct l G yX2_offTheirDay wsX2_offTheirDay 1 21 [.ref (gA G i0), .ref (gA G i1)] σ (some (.int o)) σ := by
  refine Met.ofW (cc := cX2_offTheirDay) (maxL := 5) (ret := (some .int)) (by decide) rfl ?_
  intro p e s m args below meth c s₁ B hml hv
  obtain ⟨rfl, hP, hK⟩ := hv
  have hx := B.exec
  have hb := B.bytes
  have hr := B.returns
  have hts := atoms_spec (ws := wsX2_offTheirDay) B.pre
  have hown : s.vm.findClass RX2 = some m.cls := findClass_of_methodNamed B.named
  have hlocks := B.notSynchronized
  have Z : CallFix p m c cX2_offTheirDay 5 s _ wsX2_offTheirDay RX2 := ⟨hx, hb, hml, hown, hts⟩
  have hS : va_S (AG G) s.heap s.heap [] := va_S.rf
  have inX5 : ∀ w ∈ u_ws RX5 TX5 5, w ∈ wsX2_offTheirDay := by decide +kernel
  have inX1 : ∀ w ∈ u_ws RX1 TX1 7, w ∈ wsX2_offTheirDay := by decide +kernel
  have w1n : va_Nw (.fieldLinkNest "AlmanacOfTheYearGone$Diary" 9 "AlmanacOfTheYearGone$Shelf" "length" "I" "AlmanacOfTheYearGone") s := hK.2 _ (List.mem_of_getElem? (i := 1) rfl)
  have w1 := va_Nw.use (A := [.ref (gA G i0), .ref (gA G i1)].toArray) rfl w1n
  have w2 := hts (.initialized RX5) (by decide +kernel)
  have w3n : va_Nw (.methodLinkNest "AlmanacOfTheYearGone$Diary" 15 ⟨"AlmanacOfTheYearGone$Shelf", "cell", "(I)I"⟩ "AlmanacOfTheYearGone") s := hK.2 _ (List.mem_of_getElem? (i := 83) rfl)
  have w3 := va_Nw.use (A := [.ref (gA G i0), .ref (gA G i1)].toArray) rfl w3n
  have w4 := hts (.instanceMethod yX5_cell) (by decide +kernel)
  have w5 := hts (.selects RX5 yX5_cell yX5_cell) (by decide +kernel)
  have w6 := hts (.initialized RX7) (by decide +kernel)
  have w7n : va_Nw (.methodLinkNest "AlmanacOfTheYearGone$Diary" 19 ⟨"AlmanacOfTheYearGone$Year", "deedAt", "(I)LAlmanacOfTheYearGone$Deed;"⟩ "AlmanacOfTheYearGone") s := hK.2 _ (List.mem_of_getElem? (i := 84) rfl)
  have w7 := va_Nw.use (A := [.ref (gA G i0), .ref (gA G i1)].toArray) rfl w7n
  have w8 := hts (.instanceMethod yX7_deedAt) (by decide +kernel)
  have w9 := hts (.selects RX7 yX7_deedAt yX7_deedAt) (by decide +kernel)
  have w10n : va_Nw (.fieldLinkNest "AlmanacOfTheYearGone$Diary" 39 "AlmanacOfTheYearGone$Deed" "day" "I" "AlmanacOfTheYearGone") s := hK.2 _ (List.mem_of_getElem? (i := 15) rfl)
  have w10 := va_Nw.use (A := [.ref (gA G i0), .ref (gA G i1)].toArray) rfl w10n
  have hl := lv_entry ([.ref (gA G i0), .ref (gA G i1)]) (n := 5) (Nat.le_of_ble_eq_true rfl)
  rw [lg_entry_eq]
  generalize (lg_sl ([.ref (gA G i0), .ref (gA G i1)]) ++ List.replicate (5 - (lg_sl ([.ref (gA G i0), .ref (gA G i1)])).length) Slot.unset).toArray = ls at hl ⊢
  have hl : lv_has ls 5 [(0, .ref (gA G i0)), (1, .ref (gA G i1))] := hl
  unfold f_X2_offTheirDay at hF
  refine lv_iconst (v := 0) hx hb dX2_offTheirDay_0 (by decide) ?_
  refine lv_istore_n (lv' := [(2, .int (0 : Int32)), (0, .ref (gA G i0)), (1, .ref (gA G i1))]) hx hb dX2_offTheirDay_1 rfl hl (by decide) rfl (fun ls hl => ?_)
  refine lv_iconst (v := 0) hx hb dX2_offTheirDay_2 (by decide) ?_
  have J4 : ∀ (fl : Nat) (v2 : Int32) (v3 : Int32) (H : Heap) (locs : List Loc) (hP : Pw G σ H) (hS : va_S (AG G) s.heap H locs) (ls : Array Slot) (hl : lv_has ls 5 [(0, .ref (gA G i0)), (1, .ref (gA G i1)), (2, .int v2), (3, .int v3)]) (hF : f_X2_offTheirDay_4 i0 i1 σ fl v2 v3 = some o), W p l e (headSpec wsX2_offTheirDay ({ frames := 1, cells := 0, slots := 0, locals := 21 })).room s m ([.ref (gA G i0), .ref (gA G i1)] : List Value).toArray below meth c H locs 0 0 (MQ below (qR G (some (.int o)) σ) ([.ref (gA G i0), .ref (gA G i1)] : List Value).toArray s 0 0 (AG G)) (F0 m 4 ls []) := by
    intro fl4
    induction fl4 with
    | zero => intro v2 v3 H locs hP hS ls hl hF; cases hF
    | succ fl4 ih4 =>
      intro v2 v3 H locs hP hS ls hl hF
      rw [f_X2_offTheirDay_4_s] at hF
      refine lv_iload_n hx hb dX2_offTheirDay_4 rfl (lv_at hl 3 rfl) ?_
      refine lv_aload_n hx hb dX2_offTheirDay_5 rfl (lv_at hl 0 rfl) ?_
      refine va_getN (ci := 2) (C := RX5) (T := TX5) (N := 5) (v := .int (σ i0 1)) hx hb hts inX5 hown hK.1 hP i0 (at_2 hk0) rfl 1 (by decide) w1 (fun _ h9 => h9) rfl dX2_offTheirDay_6 ?_
      refine lv_icmp_ge (tgt := 52) hx hb dX2_offTheirDay_9 (by decide) (fun c1 => ?_) (fun c1 => ?_)
      · have hF := ite_t c1 hF
        refine lv_iload_n hx hb dX2_offTheirDay_52 rfl (lv_at hl 2 rfl) ?_
        exact e_iP hx hb hr hP hS hlocks dX2_offTheirDay_53 hF
      · have hF := ite_f c1 hF
        refine lv_aload_n hx hb dX2_offTheirDay_12 rfl (lv_at hl 1 rfl) ?_
        refine lv_aload_n hx hb dX2_offTheirDay_13 rfl (lv_at hl 0 rfl) ?_
        refine lv_iload_n hx hb dX2_offTheirDay_14 rfl (lv_at hl 3 rfl) ?_
        obtain ⟨q2, h3, hF⟩ := ob_some hF
        refine k_VNv (As := [.int v3]) (rest := [.ref (gA G i1)]) Z hK hP hS (t_X5_cell l G hG i0 v3 hk0 σ _ h3) ⟨va_cnB 1 hts gX2_offTheirDay_X5_cell_n15 rfl rfl rfl w3n w2 (by decide +kernel) ⟨Nat.le_of_ble_eq_true rfl, Nat.le_of_ble_eq_true rfl⟩, w4, w5⟩ (at_2 hk0) rfl rfl hl.1 rfl (Nat.le_of_ble_eq_true rfl) ⟨Nat.zero_le _, Nat.zero_le _⟩ dX2_offTheirDay_15 (fun H locs hP hS => ?_)
        obtain ⟨q4, h5, hF⟩ := ob_some hF
        refine k_VNv (As := [.int q2]) (rest := []) Z hK hP hS (t_X7_deedAt l G hG i1 q2 hk1 σ _ h5) ⟨va_cnB 1 hts gX2_offTheirDay_X7_deedAt_n19 rfl rfl rfl w7n w6 (by decide +kernel) ⟨Nat.le_of_ble_eq_true rfl, Nat.le_of_ble_eq_true rfl⟩, w8, w9⟩ (at_3 hk1) rfl rfl hl.1 rfl (Nat.le_of_ble_eq_true rfl) ⟨Nat.zero_le _, Nat.zero_le _⟩ dX2_offTheirDay_18 (fun H locs hP hS => ?_)
        rcases q4 with _ | i6
        · have hF := oc_n hF
          refine W.eq (g2 := F0 m 21 ls [.null]) rfl ?_
          refine lv_astoreN (lv' := [(4, .null), (0, .ref (gA G i0)), (1, .ref (gA G i1)), (2, .int v2), (3, .int v3)]) hx hb dX2_offTheirDay_21 hl (by decide) rfl (fun ls hl => ?_)
          refine lv_aloadN hx hb dX2_offTheirDay_23 (lv_at hl 0 rfl) ?_
          have J46 : ∀ (v2 : Int32) (v3 : Int32) (H : Heap) (locs : List Loc) (hP : Pw G σ H) (hS : va_S (AG G) s.heap H locs) (ls : Array Slot) (hl : lv_has ls 5 [(0, .ref (gA G i0)), (1, .ref (gA G i1)), (2, .int v2), (3, .int v3)]) (hF : f_X2_offTheirDay_46 i0 i1 σ (f_X2_offTheirDay_4 i0 i1 σ fl4) v2 v3 = some o), W p l e (headSpec wsX2_offTheirDay ({ frames := 1, cells := 0, slots := 0, locals := 21 })).room s m ([.ref (gA G i0), .ref (gA G i1)] : List Value).toArray below meth c H locs 0 0 (MQ below (qR G (some (.int o)) σ) ([.ref (gA G i0), .ref (gA G i1)] : List Value).toArray s 0 0 (AG G)) (F0 m 46 ls []) := by
            intro v2 v3 H locs hP hS ls hl hF
            rw [f_X2_offTheirDay_46_e] at hF
            refine lv_iinc (v := (v3 + (2 : Int32))) (lv' := [(3, .int (v3 + (2 : Int32))), (0, .ref (gA G i0)), (1, .ref (gA G i1)), (2, .int v2)]) hx hb dX2_offTheirDay_46 hl (k := 3) rfl rfl (by decide) rfl (fun ls hl => ?_)
            refine lv_goto (tgt := 4) hx hb dX2_offTheirDay_49 (by decide) ?_
            exact ih4 v2 (v3 + (2 : Int32)) _ _ hP hS ls (lv_sub hl [1, 2, 3, 0] rfl) hF
          refine lv_ifnullN (tgt := 46) hx hb dX2_offTheirDay_25 (by decide) ?_
          exact J46 v2 v3 _ _ hP hS ls (lv_sub hl [1, 2, 3, 4] rfl) hF
        · have hF := oc_s hF
          have ki6 : kd i6 = 1 := q_X7_deedAt hk1 h5
          refine W.eq (g2 := F0 m 21 ls [.ref (gA G i6)]) rfl ?_
          refine lv_astore (lv' := [(4, .ref (gA G i6)), (0, .ref (gA G i0)), (1, .ref (gA G i1)), (2, .int v2), (3, .int v3)]) hx hb dX2_offTheirDay_21 hl (by decide) rfl (fun ls hl => ?_)
          refine lv_aload hx hb dX2_offTheirDay_23 (lv_at hl 0 rfl) ?_
          have J46 : ∀ (v2 : Int32) (v3 : Int32) (H : Heap) (locs : List Loc) (hP : Pw G σ H) (hS : va_S (AG G) s.heap H locs) (ls : Array Slot) (hl : lv_has ls 5 [(0, .ref (gA G i0)), (1, .ref (gA G i1)), (2, .int v2), (3, .int v3)]) (hF : f_X2_offTheirDay_46 i0 i1 σ (f_X2_offTheirDay_4 i0 i1 σ fl4) v2 v3 = some o), W p l e (headSpec wsX2_offTheirDay ({ frames := 1, cells := 0, slots := 0, locals := 21 })).room s m ([.ref (gA G i0), .ref (gA G i1)] : List Value).toArray below meth c H locs 0 0 (MQ below (qR G (some (.int o)) σ) ([.ref (gA G i0), .ref (gA G i1)] : List Value).toArray s 0 0 (AG G)) (F0 m 46 ls []) := by
            intro v2 v3 H locs hP hS ls hl hF
            rw [f_X2_offTheirDay_46_e] at hF
            refine lv_iinc (v := (v3 + (2 : Int32))) (lv' := [(3, .int (v3 + (2 : Int32))), (0, .ref (gA G i0)), (1, .ref (gA G i1)), (2, .int v2)]) hx hb dX2_offTheirDay_46 hl (k := 3) rfl rfl (by decide) rfl (fun ls hl => ?_)
            refine lv_goto (tgt := 4) hx hb dX2_offTheirDay_49 (by decide) ?_
            exact ih4 v2 (v3 + (2 : Int32)) _ _ hP hS ls (lv_sub hl [1, 2, 3, 0] rfl) hF
          refine lv_ifnull hx hb dX2_offTheirDay_25 ?_
          refine lv_aload hx hb dX2_offTheirDay_28 (lv_at hl 0 rfl) ?_
          refine va_getN (ci := 1) (C := RX1) (T := TX1) (N := 7) (v := .int (σ i6 2)) hx hb hts inX1 hown hK.1 hP i6 (at_1 ki6) rfl 2 (by decide) w10 (fun _ h9 => h9) rfl dX2_offTheirDay_30 ?_
          refine lv_aload_n hx hb dX2_offTheirDay_33 rfl (lv_at hl 1 rfl) ?_
          refine lv_iload_n hx hb dX2_offTheirDay_34 rfl (lv_at hl 4 rfl) ?_
          refine lv_iconst (v := 1) hx hb dX2_offTheirDay_35 (by decide) ?_
          refine lv_iadd hx hb dX2_offTheirDay_36 ?_
          obtain ⟨q7, h8, hF⟩ := ob_some hF
          refine k_VNv (As := [.int (v3 + (1 : Int32))]) (rest := [.int (σ i6 2)]) Z hK hP hS (t_X5_cell l G hG i0 (v3 + (1 : Int32)) hk0 σ _ h8) ⟨va_cnB 1 hts gX2_offTheirDay_X5_cell_n15 rfl rfl rfl w3n w2 (by decide +kernel) ⟨Nat.le_of_ble_eq_true rfl, Nat.le_of_ble_eq_true rfl⟩, w4, w5⟩ (at_2 hk0) rfl rfl hl.1 rfl (Nat.le_of_ble_eq_true rfl) ⟨Nat.zero_le _, Nat.zero_le _⟩ dX2_offTheirDay_37 (fun H locs hP hS => ?_)
          refine lv_icmp_eq (tgt := 46) hx hb dX2_offTheirDay_40 (by decide) (fun c9 => ?_) (fun c9 => ?_)
          · have hF := ite_t c9 hF
            exact J46 v2 v3 _ _ hP hS ls (lv_sub hl [1, 2, 3, 4] rfl) hF
          · have hF := ite_f c9 hF
            refine lv_iinc (v := (v2 + (1 : Int32))) (lv' := [(2, .int (v2 + (1 : Int32))), (4, .ref (gA G i6)), (0, .ref (gA G i0)), (1, .ref (gA G i1)), (3, .int v3)]) hx hb dX2_offTheirDay_43 hl (k := 3) rfl rfl (by decide) rfl (fun ls hl => ?_)
            exact J46 (v2 + (1 : Int32)) v3 _ _ hP hS ls (lv_sub hl [2, 3, 0, 4] rfl) hF
  refine lv_istore_n (lv' := [(3, .int (0 : Int32)), (2, .int (0 : Int32)), (0, .ref (gA G i0)), (1, .ref (gA G i1))]) hx hb dX2_offTheirDay_3 rfl hl (by decide) rfl (fun ls hl => ?_)
  exact J4 fu (0 : Int32) (0 : Int32) _ _ hP hS ls (lv_sub hl [2, 3, 1, 0] rfl) hF
def f_X8_shelfAt (x1 : Int32) (σ : St) : Option (Option Nat) := (if x1 < 0 then (some none) else (if (8 : Int32) ≤ x1 then (some none) else (if inb x1 8 then some (some (1 + 1 + 2 * x1.toNatClampNeg)) else none)))
set_option maxRecDepth 100000 in
set_option maxHeartbeats 4000000 in
theorem t_X8_shelfAt (l : Launch) (G : GT) (hG : Dw G) (x1 : Int32) (σ : St) (o : Option Nat) (hF : f_X8_shelfAt x1 σ = some o) : Ct l G yX8_shelfAt wsX8_shelfAt 0 0 [.ref (gA G 0), .int x1] σ (some (oref G o)) σ := by
  refine Met.ofW (cc := cX8_shelfAt) (maxL := 2) (ret := (some (.object "AlmanacOfTheYearGone$Shelf"))) (by decide) rfl ?_
  intro p e s m args below meth c s₁ B hml hv
  obtain ⟨rfl, hP, hK⟩ := hv
  have hx := B.exec
  have hb := B.bytes
  have hr := B.returns
  have hts := atoms_spec (ws := wsX8_shelfAt) B.pre
  have hown : s.vm.findClass RX8 = some m.cls := findClass_of_methodNamed B.named
  have hlocks := B.notSynchronized
  have Z : CallFix p m c cX8_shelfAt 2 s _ wsX8_shelfAt RX8 := ⟨hx, hb, hml, hown, hts⟩
  have hS : va_S (AG G) s.heap s.heap [] := va_S.rf
  have inX8 : ∀ w ∈ u_ws RX8 TX8 7, w ∈ wsX8_shelfAt := by decide +kernel
  have w1 := hts (.fieldLink RX8 11 "AlmanacOfTheYearGone" "shelves" "[LAlmanacOfTheYearGone$Shelf;") (by decide +kernel)
  have hl := lv_entry ([.ref (gA G 0), .int x1]) (n := 2) (Nat.le_of_ble_eq_true rfl)
  rw [lg_entry_eq]
  generalize (lg_sl ([.ref (gA G 0), .int x1]) ++ List.replicate (2 - (lg_sl ([.ref (gA G 0), .int x1])).length) Slot.unset).toArray = ls at hl ⊢
  have hl : lv_has ls 2 [(0, .ref (gA G 0)), (1, .int x1)] := hl
  unfold f_X8_shelfAt at hF
  refine lv_iload_n hx hb dX8_shelfAt_0 rfl (lv_at hl 1 rfl) ?_
  refine lv_if_lt (tgt := 22) hx hb dX8_shelfAt_1 (by decide) (fun c1 => ?_) (fun c1 => ?_)
  · have hF := ite_t c1 hF
    refine lv_null hx hb dX8_shelfAt_22 ?_
    exact e_aP (q := none) hx hb hr hP hS hlocks dX8_shelfAt_23 rfl hF
  · have hF := ite_f c1 hF
    refine lv_iload_n hx hb dX8_shelfAt_4 rfl (lv_at hl 1 rfl) ?_
    refine lv_aload_n hx hb dX8_shelfAt_5 rfl (lv_at hl 0 rfl) ?_
    refine va_get (ci := 4) (C := RX8) (T := TX8) (N := 7) (v := .ref (gA G 1)) hx hb hts inX8 hown hK.1 hP 0 (at_4 rfl) rfl 0 (by decide) w1 (fun _ h9 => h9) rfl dX8_shelfAt_6 ?_
    refine va_alen (v := 8) hx hb hK.1 hP 1 2 (at_8 (rfl : kd 1 = 8)) rfl rfl dX8_shelfAt_9 ?_
    refine lv_icmp_ge (tgt := 22) hx hb dX8_shelfAt_10 (by decide) (fun c2 => ?_) (fun c2 => ?_)
    · have hF := ite_t c2 hF
      refine lv_null hx hb dX8_shelfAt_22 ?_
      exact e_aP (q := none) hx hb hr hP hS hlocks dX8_shelfAt_23 rfl hF
    · have hF := ite_f c2 hF
      refine lv_aload_n hx hb dX8_shelfAt_13 rfl (lv_at hl 0 rfl) ?_
      refine va_get (ci := 4) (C := RX8) (T := TX8) (N := 7) (v := .ref (gA G 1)) hx hb hts inX8 hown hK.1 hP 0 (at_4 rfl) rfl 0 (by decide) w1 (fun _ h9 => h9) rfl dX8_shelfAt_14 ?_
      refine lv_iload_n hx hb dX8_shelfAt_17 rfl (lv_at hl 1 rfl) ?_
      obtain ⟨b3, hF⟩ := ite_some hF
      refine va_aldq hx hb hK.1 hP 1 2 (at_8 (rfl : kd 1 = 8)) rfl (inb_in b3) dX8_shelfAt_18 ?_
      refine W.eq (g2 := F0 m 19 ls ([.ref (gA G (1 + 1 + 2 * x1.toNatClampNeg))])) rfl ?_
      refine lv_goto (tgt := 23) hx hb dX8_shelfAt_19 (by decide) ?_
      exact e_aP (q := some (1 + 1 + 2 * x1.toNatClampNeg)) hx hb hr hP hS hlocks dX8_shelfAt_23 rfl hF
theorem q_X8_shelfAt {x1 : Int32} {σ : St} {i : Nat} (h : f_X8_shelfAt x1 σ = some (some i)) : kd i = 2 := by
  unfold f_X8_shelfAt at h
  by_cases c1 : x1 < 0
  · rw [if_pos c1] at h; cases h
  · rw [if_neg c1] at h
    by_cases c2 : (8 : Int32) ≤ x1
    · rw [if_pos c2] at h; cases h
    · rw [if_neg c2] at h
      obtain ⟨b, h⟩ := ite_some h
      cases h
      exact kd_8 (rfl : kd 1 = 8) b.2
def f_X8_refusal (q0 : Option Nat) (x1 : Int32) (σ : St) : Int32 := oc q0 (((-1 : Int32))) (fun i0 => (if (f_X5_isEmpty i0 σ) = true then ((-11 : Int32)) else (if (b2i (f_X5_hasRow i0 σ)) = x1 then ((0 : Int32)) else ((-12 : Int32)))))
set_option maxRecDepth 100000 in
set_option maxHeartbeats 4000000 in
theorem t_X8_refusal (l : Launch) (G : GT) (hG : Dw G) (q0 : Option Nat) (x1 : Int32) (hk0 : ∀ i, q0 = some i → kd i = 2) (σ : St) : Ct l G yX8_refusal wsX8_refusal 1 20 [oref G q0, .int x1] σ (some (.int (f_X8_refusal q0 x1 σ))) σ := by
  rcases q0 with _ | i0
  · change Ct l G yX8_refusal wsX8_refusal 1 20 [.null, .int x1] σ (some (.int (f_X8_refusal none x1 σ))) σ
    obtain ⟨o, hF⟩ : ∃ o, f_X8_refusal none x1 σ = o := ⟨_, rfl⟩
    rw [hF]
    refine Met.ofW (cc := cX8_refusal) (maxL := 2) (ret := (some .int)) (by decide) rfl ?_
    intro p e s m args below meth c s₁ B hml hv
    obtain ⟨rfl, hP, hK⟩ := hv
    have hx := B.exec
    have hb := B.bytes
    have hr := B.returns
    have hts := atoms_spec (ws := wsX8_refusal) B.pre
    have hown : s.vm.findClass RX8 = some m.cls := findClass_of_methodNamed B.named
    have hlocks := B.notSynchronized
    have Z : CallFix p m c cX8_refusal 2 s _ wsX8_refusal RX8 := ⟨hx, hb, hml, hown, hts⟩
    have hS : va_S (AG G) s.heap s.heap [] := va_S.rf
    have w1 := hts (.initialized RX5) (by decide +kernel)
    have w2n : va_Nw (.methodLinkNest "AlmanacOfTheYearGone" 325 ⟨"AlmanacOfTheYearGone$Shelf", "isEmpty", "()Z"⟩ "AlmanacOfTheYearGone") s := hK.2 _ (List.mem_of_getElem? (i := 38) rfl)
    have w2 := va_Nw.use (A := [.null, .int x1].toArray) rfl w2n
    have w3 := hts (.instanceMethod yX5_isEmpty) (by decide +kernel)
    have w4 := hts (.selects RX5 yX5_isEmpty yX5_isEmpty) (by decide +kernel)
    have w5n : va_Nw (.methodLinkNest "AlmanacOfTheYearGone" 314 ⟨"AlmanacOfTheYearGone$Shelf", "hasRow", "()Z"⟩ "AlmanacOfTheYearGone") s := hK.2 _ (List.mem_of_getElem? (i := 39) rfl)
    have w5 := va_Nw.use (A := [.null, .int x1].toArray) rfl w5n
    have w6 := hts (.instanceMethod yX5_hasRow) (by decide +kernel)
    have w7 := hts (.selects RX5 yX5_hasRow yX5_hasRow) (by decide +kernel)
    have hl := lv_entry ([.null, .int x1]) (n := 2) (Nat.le_of_ble_eq_true rfl)
    rw [lg_entry_eq]
    generalize (lg_sl ([.null, .int x1]) ++ List.replicate (2 - (lg_sl ([.null, .int x1])).length) Slot.unset).toArray = ls at hl ⊢
    unfold f_X8_refusal at hF
    have hF := oc_n hF
    have hl : lv_has ls 2 [(0, .null), (1, .int x1)] := hl
    refine lv_aload_nN hx hb dX8_refusal_0 rfl (lv_at hl 0 rfl) ?_
    refine lv_ifnonnullN hx hb dX8_refusal_1 ?_
    refine lv_iconst (v := -1) hx hb dX8_refusal_4 (by decide) ?_
    exact e_iT hx hb hr hP hS hlocks dX8_refusal_5 hF
  · change Ct l G yX8_refusal wsX8_refusal 1 20 [.ref (gA G i0), .int x1] σ (some (.int (f_X8_refusal (some i0) x1 σ))) σ
    obtain ⟨o, hF⟩ : ∃ o, f_X8_refusal (some i0) x1 σ = o := ⟨_, rfl⟩
    rw [hF]
    refine Met.ofW (cc := cX8_refusal) (maxL := 2) (ret := (some .int)) (by decide) rfl ?_
    intro p e s m args below meth c s₁ B hml hv
    obtain ⟨rfl, hP, hK⟩ := hv
    have hx := B.exec
    have hb := B.bytes
    have hr := B.returns
    have hts := atoms_spec (ws := wsX8_refusal) B.pre
    have hown : s.vm.findClass RX8 = some m.cls := findClass_of_methodNamed B.named
    have hlocks := B.notSynchronized
    have Z : CallFix p m c cX8_refusal 2 s _ wsX8_refusal RX8 := ⟨hx, hb, hml, hown, hts⟩
    have hS : va_S (AG G) s.heap s.heap [] := va_S.rf
    have w1 := hts (.initialized RX5) (by decide +kernel)
    have w2n : va_Nw (.methodLinkNest "AlmanacOfTheYearGone" 325 ⟨"AlmanacOfTheYearGone$Shelf", "isEmpty", "()Z"⟩ "AlmanacOfTheYearGone") s := hK.2 _ (List.mem_of_getElem? (i := 38) rfl)
    have w2 := va_Nw.use (A := [.ref (gA G i0), .int x1].toArray) rfl w2n
    have w3 := hts (.instanceMethod yX5_isEmpty) (by decide +kernel)
    have w4 := hts (.selects RX5 yX5_isEmpty yX5_isEmpty) (by decide +kernel)
    have w5n : va_Nw (.methodLinkNest "AlmanacOfTheYearGone" 314 ⟨"AlmanacOfTheYearGone$Shelf", "hasRow", "()Z"⟩ "AlmanacOfTheYearGone") s := hK.2 _ (List.mem_of_getElem? (i := 39) rfl)
    have w5 := va_Nw.use (A := [.ref (gA G i0), .int x1].toArray) rfl w5n
    have w6 := hts (.instanceMethod yX5_hasRow) (by decide +kernel)
    have w7 := hts (.selects RX5 yX5_hasRow yX5_hasRow) (by decide +kernel)
    have hl := lv_entry ([.ref (gA G i0), .int x1]) (n := 2) (Nat.le_of_ble_eq_true rfl)
    rw [lg_entry_eq]
    generalize (lg_sl ([.ref (gA G i0), .int x1]) ++ List.replicate (2 - (lg_sl ([.ref (gA G i0), .int x1])).length) Slot.unset).toArray = ls at hl ⊢
    unfold f_X8_refusal at hF
    have hF := oc_s hF
    have hk0 := hk0 i0 rfl
    have hl : lv_has ls 2 [(0, .ref (gA G i0)), (1, .int x1)] := hl
    refine lv_aload_n hx hb dX8_refusal_0 rfl (lv_at hl 0 rfl) ?_
    refine lv_ifnonnull (tgt := 6) hx hb dX8_refusal_1 (by decide) ?_
    refine lv_aload_n hx hb dX8_refusal_6 rfl (lv_at hl 0 rfl) ?_
    refine k_VNv (As := []) (rest := []) Z hK hP hS (t_X5_isEmpty l G hG i0 hk0 σ) ⟨va_cnB 0 hts gX8_refusal_X5_isEmpty_n325 rfl rfl rfl w2n w1 (by decide +kernel) ⟨Nat.le_of_ble_eq_true rfl, Nat.le_of_ble_eq_true rfl⟩, w3, w4⟩ (at_2 hk0) rfl rfl hl.1 rfl (Nat.le_of_ble_eq_true rfl) ⟨Nat.zero_le _, Nat.zero_le _⟩ dX8_refusal_7 (fun H locs hP hS => ?_)
    refine lv_if_eq (tgt := 16) hx hb dX8_refusal_10 (by decide) (fun c1 => ?_) (fun c1 => ?_)
    · have hF := ite_f (b2i_e0 c1) hF
      refine lv_aload_n hx hb dX8_refusal_16 rfl (lv_at hl 0 rfl) ?_
      refine k_VNv (As := []) (rest := []) Z hK hP hS (t_X5_hasRow l G hG i0 hk0 σ) ⟨va_cnB 0 hts gX8_refusal_X5_hasRow_n314 rfl rfl rfl w5n w1 (by decide +kernel) ⟨Nat.le_of_ble_eq_true rfl, Nat.le_of_ble_eq_true rfl⟩, w6, w7⟩ (at_2 hk0) rfl rfl hl.1 rfl (Nat.le_of_ble_eq_true rfl) ⟨Nat.zero_le _, Nat.zero_le _⟩ dX8_refusal_17 (fun H locs hP hS => ?_)
      refine lv_iload_n hx hb dX8_refusal_20 rfl (lv_at hl 1 rfl) ?_
      refine lv_icmp_ne (tgt := 28) hx hb dX8_refusal_21 (by decide) (fun c2 => ?_) (fun c2 => ?_)
      · have hF := ite_f c2 hF
        refine lv_bipush (v := -12) hx hb dX8_refusal_28 (by decide) ?_
        exact e_iT hx hb hr hP hS hlocks dX8_refusal_30 hF
      · have hF := ite_t c2 hF
        refine lv_iconst (v := 0) hx hb dX8_refusal_24 (by decide) ?_
        refine lv_goto (tgt := 30) hx hb dX8_refusal_25 (by decide) ?_
        exact e_iT hx hb hr hP hS hlocks dX8_refusal_30 hF
    · have hF := ite_t (b2i_n0 c1) hF
      refine lv_bipush (v := -11) hx hb dX8_refusal_13 (by decide) ?_
      exact e_iT hx hb hr hP hS hlocks dX8_refusal_15 hF
def f_X8_rowRefusal (q0 : Option Nat) (σ : St) : Int32 := oc q0 ((f_X8_refusal none (1 : Int32) σ)) (fun i0 => (f_X8_refusal (some i0) (1 : Int32) σ))
set_option maxRecDepth 100000 in
set_option maxHeartbeats 4000000 in
theorem t_X8_rowRefusal (l : Launch) (G : GT) (hG : Dw G) (q0 : Option Nat) (hk0 : ∀ i, q0 = some i → kd i = 2) (σ : St) : Ct l G yX8_rowRefusal wsX8_rowRefusal 2 41 [oref G q0] σ (some (.int (f_X8_rowRefusal q0 σ))) σ := by
  rcases q0 with _ | i0
  · change Ct l G yX8_rowRefusal wsX8_rowRefusal 2 41 [.null] σ (some (.int (f_X8_rowRefusal none σ))) σ
    obtain ⟨o, hF⟩ : ∃ o, f_X8_rowRefusal none σ = o := ⟨_, rfl⟩
    rw [hF]
    refine Met.ofW (cc := cX8_rowRefusal) (maxL := 1) (ret := (some .int)) (by decide) rfl ?_
    intro p e s m args below meth c s₁ B hml hv
    obtain ⟨rfl, hP, hK⟩ := hv
    have hx := B.exec
    have hb := B.bytes
    have hr := B.returns
    have hts := atoms_spec (ws := wsX8_rowRefusal) B.pre
    have hown : s.vm.findClass RX8 = some m.cls := findClass_of_methodNamed B.named
    have hlocks := B.notSynchronized
    have Z : CallFix p m c cX8_rowRefusal 1 s _ wsX8_rowRefusal RX8 := ⟨hx, hb, hml, hown, hts⟩
    have hS : va_S (AG G) s.heap s.heap [] := va_S.rf
    have hl := lv_entry ([.null]) (n := 1) (Nat.le_of_ble_eq_true rfl)
    rw [lg_entry_eq]
    generalize (lg_sl ([.null]) ++ List.replicate (1 - (lg_sl ([.null])).length) Slot.unset).toArray = ls at hl ⊢
    unfold f_X8_rowRefusal at hF
    have hF := oc_n hF
    have hl : lv_has ls 1 [(0, .null)] := hl
    refine lv_aload_nN hx hb dX8_rowRefusal_0 rfl (lv_at hl 0 rfl) ?_
    refine lv_iconst (v := 1) hx hb dX8_rowRefusal_1 (by decide) ?_
    refine k_Sv (As := [.null, .int (1 : Int32)]) (rest := []) Z hK hP hS (t_X8_refusal l G hG none (1 : Int32) (fun _ h9 => by cases h9) σ) (va_cwS 2 hts gX8_rowRefusal_X8_refusal rfl rfl rfl (by decide +kernel) ⟨Nat.le_of_ble_eq_true rfl, Nat.le_of_ble_eq_true rfl⟩) rfl hl.1 rfl (Nat.le_of_ble_eq_true rfl) ⟨Nat.zero_le _, Nat.zero_le _⟩ dX8_rowRefusal_2 (fun H locs hP hS => ?_)
    exact e_iT hx hb hr hP hS hlocks dX8_rowRefusal_5 hF
  · change Ct l G yX8_rowRefusal wsX8_rowRefusal 2 41 [.ref (gA G i0)] σ (some (.int (f_X8_rowRefusal (some i0) σ))) σ
    obtain ⟨o, hF⟩ : ∃ o, f_X8_rowRefusal (some i0) σ = o := ⟨_, rfl⟩
    rw [hF]
    refine Met.ofW (cc := cX8_rowRefusal) (maxL := 1) (ret := (some .int)) (by decide) rfl ?_
    intro p e s m args below meth c s₁ B hml hv
    obtain ⟨rfl, hP, hK⟩ := hv
    have hx := B.exec
    have hb := B.bytes
    have hr := B.returns
    have hts := atoms_spec (ws := wsX8_rowRefusal) B.pre
    have hown : s.vm.findClass RX8 = some m.cls := findClass_of_methodNamed B.named
    have hlocks := B.notSynchronized
    have Z : CallFix p m c cX8_rowRefusal 1 s _ wsX8_rowRefusal RX8 := ⟨hx, hb, hml, hown, hts⟩
    have hS : va_S (AG G) s.heap s.heap [] := va_S.rf
    have hl := lv_entry ([.ref (gA G i0)]) (n := 1) (Nat.le_of_ble_eq_true rfl)
    rw [lg_entry_eq]
    generalize (lg_sl ([.ref (gA G i0)]) ++ List.replicate (1 - (lg_sl ([.ref (gA G i0)])).length) Slot.unset).toArray = ls at hl ⊢
    unfold f_X8_rowRefusal at hF
    have hF := oc_s hF
    have hk0 := hk0 i0 rfl
    have hl : lv_has ls 1 [(0, .ref (gA G i0))] := hl
    refine lv_aload_n hx hb dX8_rowRefusal_0 rfl (lv_at hl 0 rfl) ?_
    refine lv_iconst (v := 1) hx hb dX8_rowRefusal_1 (by decide) ?_
    refine k_Sv (As := [.ref (gA G i0), .int (1 : Int32)]) (rest := []) Z hK hP hS (t_X8_refusal l G hG (some i0) (1 : Int32) (fun _ h9 => by cases h9; exact hk0) σ) (va_cwS 2 hts gX8_rowRefusal_X8_refusal rfl rfl rfl (by decide +kernel) ⟨Nat.le_of_ble_eq_true rfl, Nat.le_of_ble_eq_true rfl⟩) rfl hl.1 rfl (Nat.le_of_ble_eq_true rfl) ⟨Nat.zero_le _, Nat.zero_le _⟩ dX8_rowRefusal_2 (fun H locs hP hS => ?_)
    exact e_iT hx hb hr hP hS hlocks dX8_rowRefusal_5 hF
def f_X8_year (x1 : Int32) (σ : St) : Option (Int32 × St) := (ob (f_X8_shelfAt x1 σ) (fun q1 => oc q1 ((some (f_X8_rowRefusal none σ, σ))) (fun i3 => (if (f_X8_rowRefusal (some i3) σ) = 0 then (if (σ i3 2) = 0 then (ob (f_X6_firstBadByte i3 σ) (fun q6 => if q6 < 0 then (ob (f_X7_become 34 21 σ) (fun q9 => ob (f_X6_firstWrongStatement i3 34 q9) (fun q11 => if q11.1 < 0 then (ob (f_X7_become 21 34 q11.2) (fun q14 => ob (f_X6_statements i3 q14) (fun q16 => some (q16, q14)))) else (some ((-2000 : Int32) - q11.1, q11.2))))) else (some ((-1000 : Int32) - q6, σ)))) else (some ((-12 : Int32), σ))) else (some (f_X8_rowRefusal (some i3) σ, σ))))))
set_option maxRecDepth 100000 in
set_option maxHeartbeats 4000000 in
theorem t_X8_year (l : Launch) (G : GT) (hG : Dw G) (x1 : Int32) (σ : St) (o : Int32 × St) (hF : f_X8_year x1 σ = some o) : Ct l G yX8_year wsX8_year 6 146 [.ref (gA G 0), .int x1] σ (some (.int o.1)) o.2 := by
  refine Met.ofW (cc := cX8_year) (maxL := 6) (ret := (some .int)) (by decide) rfl ?_
  intro p e s m args below meth c s₁ B hml hv
  obtain ⟨rfl, hP, hK⟩ := hv
  have hx := B.exec
  have hb := B.bytes
  have hr := B.returns
  have hts := atoms_spec (ws := wsX8_year) B.pre
  have hown : s.vm.findClass RX8 = some m.cls := findClass_of_methodNamed B.named
  have hlocks := B.notSynchronized
  have Z : CallFix p m c cX8_year 6 s _ wsX8_year RX8 := ⟨hx, hb, hml, hown, hts⟩
  have hS : va_S (AG G) s.heap s.heap [] := va_S.rf
  have inX5 : ∀ w ∈ u_ws RX5 TX5 5, w ∈ wsX8_year := by decide +kernel
  have inX8 : ∀ w ∈ u_ws RX8 TX8 7, w ∈ wsX8_year := by decide +kernel
  have w1n : va_Nw (.fieldLinkNest "AlmanacOfTheYearGone" 58 "AlmanacOfTheYearGone$Shelf" "sort" "I" "AlmanacOfTheYearGone") s := hK.2 _ (List.mem_of_getElem? (i := 5) rfl)
  have w1 := va_Nw.use (A := [.ref (gA G 0), .int x1].toArray) rfl w1n
  have w2 := hts (.initialized RX6) (by decide +kernel)
  have w3n : va_Nw (.methodLinkNest "AlmanacOfTheYearGone" 62 ⟨"AlmanacOfTheYearGone$Text", "firstBadByte", "(LAlmanacOfTheYearGone$Shelf;)I"⟩ "AlmanacOfTheYearGone") s := hK.2 _ (List.mem_of_getElem? (i := 40) rfl)
  have w3 := va_Nw.use (A := [.ref (gA G 0), .int x1].toArray) rfl w3n
  have w4 := hts (.static yX6_firstBadByte) (by decide +kernel)
  have w5 := hts (.fieldLink RX8 33 "AlmanacOfTheYearGone" "trial" "LAlmanacOfTheYearGone$Year;") (by decide +kernel)
  have w6 := hts (.fieldLink RX8 27 "AlmanacOfTheYearGone" "now" "LAlmanacOfTheYearGone$Year;") (by decide +kernel)
  have w7 := hts (.initialized RX7) (by decide +kernel)
  have w8n : va_Nw (.methodLinkNest "AlmanacOfTheYearGone" 67 ⟨"AlmanacOfTheYearGone$Year", "become", "(LAlmanacOfTheYearGone$Year;)V"⟩ "AlmanacOfTheYearGone") s := hK.2 _ (List.mem_of_getElem? (i := 42) rfl)
  have w8 := va_Nw.use (A := [.ref (gA G 0), .int x1].toArray) rfl w8n
  have w9 := hts (.instanceMethod yX7_become) (by decide +kernel)
  have w10 := hts (.selects RX7 yX7_become yX7_become) (by decide +kernel)
  have w11n : va_Nw (.methodLinkNest "AlmanacOfTheYearGone" 71 ⟨"AlmanacOfTheYearGone$Text", "firstWrongStatement", "(LAlmanacOfTheYearGone$Shelf;LAlmanacOfTheYearGone$Year;)I"⟩ "AlmanacOfTheYearGone") s := hK.2 _ (List.mem_of_getElem? (i := 46) rfl)
  have w11 := va_Nw.use (A := [.ref (gA G 0), .int x1].toArray) rfl w11n
  have w12 := hts (.static yX6_firstWrongStatement) (by decide +kernel)
  have w13n : va_Nw (.methodLinkNest "AlmanacOfTheYearGone" 75 ⟨"AlmanacOfTheYearGone$Text", "statements", "(LAlmanacOfTheYearGone$Shelf;)I"⟩ "AlmanacOfTheYearGone") s := hK.2 _ (List.mem_of_getElem? (i := 51) rfl)
  have w13 := va_Nw.use (A := [.ref (gA G 0), .int x1].toArray) rfl w13n
  have w14 := hts (.static yX6_statements) (by decide +kernel)
  have hl := lv_entry ([.ref (gA G 0), .int x1]) (n := 6) (Nat.le_of_ble_eq_true rfl)
  rw [lg_entry_eq]
  generalize (lg_sl ([.ref (gA G 0), .int x1]) ++ List.replicate (6 - (lg_sl ([.ref (gA G 0), .int x1])).length) Slot.unset).toArray = ls at hl ⊢
  have hl : lv_has ls 6 [(0, .ref (gA G 0)), (1, .int x1)] := hl
  unfold f_X8_year at hF
  refine lv_aload_n hx hb dX8_year_0 rfl (lv_at hl 0 rfl) ?_
  refine lv_iload_n hx hb dX8_year_1 rfl (lv_at hl 1 rfl) ?_
  obtain ⟨q1, h2, hF⟩ := ob_some hF
  refine k_Vv (As := [.int x1]) (rest := []) Z hK hP hS (t_X8_shelfAt l G hG x1 σ _ h2) (cwV 1 hts gX8_year_X8_shelfAt rfl rfl rfl (by decide +kernel) ⟨Nat.le_of_ble_eq_true rfl, Nat.le_of_ble_eq_true rfl⟩) (at_4 rfl) rfl rfl hl.1 rfl (Nat.le_of_ble_eq_true rfl) ⟨Nat.zero_le _, Nat.zero_le _⟩ dX8_year_2 (fun H locs hP hS => ?_)
  rcases q1 with _ | i3
  · have hF := oc_n hF
    refine W.eq (g2 := F0 m 5 ls [.null]) rfl ?_
    refine lv_astore_nN (lv' := [(2, .null), (0, .ref (gA G 0)), (1, .int x1)]) hx hb dX8_year_5 rfl hl (by decide) rfl (fun ls hl => ?_)
    refine lv_aload_nN hx hb dX8_year_6 rfl (lv_at hl 0 rfl) ?_
    refine k_Sv (As := [.null]) (rest := []) Z hK hP hS (t_X8_rowRefusal l G hG none (fun _ h9 => by cases h9) σ) (va_cwS 1 hts gX8_year_X8_rowRefusal rfl rfl rfl (by decide +kernel) ⟨Nat.le_of_ble_eq_true rfl, Nat.le_of_ble_eq_true rfl⟩) rfl hl.1 rfl (Nat.le_of_ble_eq_true rfl) ⟨Nat.zero_le _, Nat.zero_le _⟩ dX8_year_7 (fun H locs hP hS => ?_)
    refine lv_istore_n (lv' := [(3, .int (f_X8_rowRefusal none σ)), (2, .null), (0, .ref (gA G 0)), (1, .int x1)]) hx hb dX8_year_10 rfl hl (by decide) rfl (fun ls hl => ?_)
    refine lv_aload_nN hx hb dX8_year_11 rfl (lv_at hl 1 rfl) ?_
    refine lv_ifnullN (tgt := 19) hx hb dX8_year_12 (by decide) ?_
    refine lv_iload_n hx hb dX8_year_19 rfl (lv_at hl 0 rfl) ?_
    exact e_iS hx hb hr hP hS hlocks dX8_year_20 hF
  · have hF := oc_s hF
    have ki3 : kd i3 = 2 := q_X8_shelfAt  h2
    refine W.eq (g2 := F0 m 5 ls [.ref (gA G i3)]) rfl ?_
    refine lv_astore_n (lv' := [(2, .ref (gA G i3)), (0, .ref (gA G 0)), (1, .int x1)]) hx hb dX8_year_5 rfl hl (by decide) rfl (fun ls hl => ?_)
    refine lv_aload_n hx hb dX8_year_6 rfl (lv_at hl 0 rfl) ?_
    refine k_Sv (As := [.ref (gA G i3)]) (rest := []) Z hK hP hS (t_X8_rowRefusal l G hG (some i3) (fun _ h9 => by cases h9; exact ki3) σ) (va_cwS 1 hts gX8_year_X8_rowRefusal rfl rfl rfl (by decide +kernel) ⟨Nat.le_of_ble_eq_true rfl, Nat.le_of_ble_eq_true rfl⟩) rfl hl.1 rfl (Nat.le_of_ble_eq_true rfl) ⟨Nat.zero_le _, Nat.zero_le _⟩ dX8_year_7 (fun H locs hP hS => ?_)
    refine lv_istore_n (lv' := [(3, .int (f_X8_rowRefusal (some i3) σ)), (2, .ref (gA G i3)), (0, .ref (gA G 0)), (1, .int x1)]) hx hb dX8_year_10 rfl hl (by decide) rfl (fun ls hl => ?_)
    refine lv_aload_n hx hb dX8_year_11 rfl (lv_at hl 1 rfl) ?_
    refine lv_ifnull hx hb dX8_year_12 ?_
    refine lv_iload_n hx hb dX8_year_15 rfl (lv_at hl 0 rfl) ?_
    refine lv_if_eq (tgt := 21) hx hb dX8_year_16 (by decide) (fun c4 => ?_) (fun c4 => ?_)
    · have hF := ite_t c4 hF
      refine lv_aload_n hx hb dX8_year_21 rfl (lv_at hl 1 rfl) ?_
      refine va_getN (ci := 2) (C := RX5) (T := TX5) (N := 5) (v := .int (σ i3 2)) hx hb hts inX5 hown hK.1 hP i3 (at_2 ki3) rfl 2 (by decide) w1 (fun _ h9 => h9) rfl dX8_year_22 ?_
      refine lv_if_eq (tgt := 31) hx hb dX8_year_25 (by decide) (fun c5 => ?_) (fun c5 => ?_)
      · have hF := ite_t c5 hF
        refine lv_aload_n hx hb dX8_year_31 rfl (lv_at hl 1 rfl) ?_
        obtain ⟨q6, h7, hF⟩ := ob_some hF
        refine k_SNv (As := [.ref (gA G i3)]) (rest := []) Z hK hP hS (t_X6_firstBadByte l G hG i3 ki3 σ _ h7) ⟨va_cnB 1 hts gX8_year_X6_firstBadByte_n62 rfl rfl rfl w3n w2 (by decide +kernel) ⟨Nat.le_of_ble_eq_true rfl, Nat.le_of_ble_eq_true rfl⟩, w4, trivial⟩ rfl hl.1 rfl (Nat.le_of_ble_eq_true rfl) ⟨Nat.zero_le _, Nat.zero_le _⟩ dX8_year_32 (fun H locs hP hS => ?_)
        refine lv_istore (lv' := [(4, .int q6), (3, .int (f_X8_rowRefusal (some i3) σ)), (2, .ref (gA G i3)), (0, .ref (gA G 0)), (1, .int x1)]) hx hb dX8_year_35 hl (by decide) rfl (fun ls hl => ?_)
        refine lv_iload hx hb dX8_year_37 (lv_at hl 0 rfl) ?_
        refine lv_if_lt (tgt := 49) hx hb dX8_year_39 (by decide) (fun c8 => ?_) (fun c8 => ?_)
        · have hF := ite_t c8 hF
          refine lv_aload_n hx hb dX8_year_49 rfl (lv_at hl 3 rfl) ?_
          refine va_get (ci := 4) (C := RX8) (T := TX8) (N := 7) (v := .ref (gA G 34)) hx hb hts inX8 hown hK.1 hP 0 (at_4 rfl) rfl 3 (by decide) w5 (fun _ h9 => h9) rfl dX8_year_50 ?_
          refine lv_aload_n hx hb dX8_year_53 rfl (lv_at hl 3 rfl) ?_
          refine va_get (ci := 4) (C := RX8) (T := TX8) (N := 7) (v := .ref (gA G 21)) hx hb hts inX8 hown hK.1 hP 0 (at_4 rfl) rfl 2 (by decide) w6 (fun _ h9 => h9) rfl dX8_year_54 ?_
          obtain ⟨q9, h10, hF⟩ := ob_some hF
          refine k_VN0 (As := [.ref (gA G 21)]) (rest := []) Z hK hP hS (t_X7_become l G hG 34 21 (rfl : kd 34 = 3) (rfl : kd 21 = 3) σ _ h10) ⟨va_cnB 1 hts gX8_year_X7_become_n67 rfl rfl rfl w8n w7 (by decide +kernel) ⟨Nat.le_of_ble_eq_true rfl, Nat.le_of_ble_eq_true rfl⟩, w9, w10⟩ (at_3 (rfl : kd 34 = 3)) rfl rfl hl.1 rfl (Nat.le_of_ble_eq_true rfl) ⟨Nat.zero_le _, Nat.zero_le _⟩ dX8_year_57 (fun H locs hP hS => ?_)
          refine lv_aload_n hx hb dX8_year_60 rfl (lv_at hl 2 rfl) ?_
          refine lv_aload_n hx hb dX8_year_61 rfl (lv_at hl 3 rfl) ?_
          refine va_get (ci := 4) (C := RX8) (T := TX8) (N := 7) (v := .ref (gA G 34)) hx hb hts inX8 hown hK.1 hP 0 (at_4 rfl) rfl 3 (by decide) w5 (fun _ h9 => h9) rfl dX8_year_62 ?_
          obtain ⟨q11, h12, hF⟩ := ob_some hF
          refine k_SNv (As := [.ref (gA G i3), .ref (gA G 34)]) (rest := []) Z hK hP hS (t_X6_firstWrongStatement l G hG i3 34 ki3 (rfl : kd 34 = 3) q9 _ h12) ⟨va_cnB 2 hts gX8_year_X6_firstWrongStatement_n71 rfl rfl rfl w11n w2 (by decide +kernel) ⟨Nat.le_of_ble_eq_true rfl, Nat.le_of_ble_eq_true rfl⟩, w12, trivial⟩ rfl hl.1 rfl (Nat.le_of_ble_eq_true rfl) ⟨Nat.zero_le _, Nat.zero_le _⟩ dX8_year_65 (fun H locs hP hS => ?_)
          refine lv_istore (lv' := [(5, .int q11.1), (4, .int q6), (3, .int (f_X8_rowRefusal (some i3) σ)), (2, .ref (gA G i3)), (0, .ref (gA G 0)), (1, .int x1)]) hx hb dX8_year_68 hl (by decide) rfl (fun ls hl => ?_)
          refine lv_iload hx hb dX8_year_70 (lv_at hl 0 rfl) ?_
          refine lv_if_lt (tgt := 82) hx hb dX8_year_72 (by decide) (fun c13 => ?_) (fun c13 => ?_)
          · have hF := ite_t c13 hF
            refine lv_aload_n hx hb dX8_year_82 rfl (lv_at hl 4 rfl) ?_
            refine va_get (ci := 4) (C := RX8) (T := TX8) (N := 7) (v := .ref (gA G 21)) hx hb hts inX8 hown hK.1 hP 0 (at_4 rfl) rfl 2 (by decide) w6 (fun _ h9 => h9) rfl dX8_year_83 ?_
            refine lv_aload_n hx hb dX8_year_86 rfl (lv_at hl 4 rfl) ?_
            refine va_get (ci := 4) (C := RX8) (T := TX8) (N := 7) (v := .ref (gA G 34)) hx hb hts inX8 hown hK.1 hP 0 (at_4 rfl) rfl 3 (by decide) w5 (fun _ h9 => h9) rfl dX8_year_87 ?_
            obtain ⟨q14, h15, hF⟩ := ob_some hF
            refine k_VN0 (As := [.ref (gA G 34)]) (rest := []) Z hK hP hS (t_X7_become l G hG 21 34 (rfl : kd 21 = 3) (rfl : kd 34 = 3) q11.2 _ h15) ⟨va_cnB 1 hts gX8_year_X7_become_n67 rfl rfl rfl w8n w7 (by decide +kernel) ⟨Nat.le_of_ble_eq_true rfl, Nat.le_of_ble_eq_true rfl⟩, w9, w10⟩ (at_3 (rfl : kd 21 = 3)) rfl rfl hl.1 rfl (Nat.le_of_ble_eq_true rfl) ⟨Nat.zero_le _, Nat.zero_le _⟩ dX8_year_90 (fun H locs hP hS => ?_)
            refine lv_aload_n hx hb dX8_year_93 rfl (lv_at hl 3 rfl) ?_
            obtain ⟨q16, h17, hF⟩ := ob_some hF
            refine k_SNv (As := [.ref (gA G i3)]) (rest := []) Z hK hP hS (t_X6_statements l G hG i3 ki3 q14 _ h17) ⟨va_cnB 1 hts gX8_year_X6_statements_n75 rfl rfl rfl w13n w2 (by decide +kernel) ⟨Nat.le_of_ble_eq_true rfl, Nat.le_of_ble_eq_true rfl⟩, w14, trivial⟩ rfl hl.1 rfl (Nat.le_of_ble_eq_true rfl) ⟨Nat.zero_le _, Nat.zero_le _⟩ dX8_year_94 (fun H locs hP hS => ?_)
            exact e_iS hx hb hr hP hS hlocks dX8_year_97 hF
          · have hF := ite_f c13 hF
            refine lv_sipush (v := -2000) hx hb dX8_year_75 (by decide) ?_
            refine lv_iload hx hb dX8_year_78 (lv_at hl 0 rfl) ?_
            refine lv_isub hx hb dX8_year_80 ?_
            exact e_iS hx hb hr hP hS hlocks dX8_year_81 hF
        · have hF := ite_f c8 hF
          refine lv_sipush (v := -1000) hx hb dX8_year_42 (by decide) ?_
          refine lv_iload hx hb dX8_year_45 (lv_at hl 0 rfl) ?_
          refine lv_isub hx hb dX8_year_47 ?_
          exact e_iS hx hb hr hP hS hlocks dX8_year_48 hF
      · have hF := ite_f c5 hF
        refine lv_bipush (v := -12) hx hb dX8_year_28 (by decide) ?_
        exact e_iS hx hb hr hP hS hlocks dX8_year_30 hF
    · have hF := ite_f c4 hF
      refine lv_iload_n hx hb dX8_year_19 rfl (lv_at hl 0 rfl) ?_
      exact e_iS hx hb hr hP hS hlocks dX8_year_20 hF
def f_X8_deed (x1 : Int32) (x2 : Int32) (σ : St) : Option Int32 := (ob (f_X7_deedAt 21 x1 σ) (fun q1 => oc q1 ((some (-1 : Int32))) (fun i3 => (if x2 = (0 : Int32) then (some (σ i3 0)) else if x2 = (1 : Int32) then (some (σ i3 1)) else if x2 = (2 : Int32) then (some (σ i3 2)) else if x2 = (3 : Int32) then (some (σ i3 3)) else if x2 = (4 : Int32) then (some (σ i3 4)) else if x2 = (5 : Int32) then (some (σ i3 5)) else if x2 = (6 : Int32) then (some (σ i3 6)) else if x2 = (7 : Int32) then (some (f_X1_size i3 σ)) else (some (-1 : Int32))))))
set_option maxRecDepth 100000 in
set_option maxHeartbeats 4000000 in
theorem t_X8_deed (l : Launch) (G : GT) (hG : Dw G) (x1 : Int32) (x2 : Int32) (σ : St) (o : Int32) (hF : f_X8_deed x1 x2 σ = some o) : Ct l G yX8_deed wsX8_deed 2 43 [.ref (gA G 0), .int x1, .int x2] σ (some (.int o)) σ := by
  refine Met.ofW (cc := cX8_deed) (maxL := 4) (ret := (some .int)) (by decide) rfl ?_
  intro p e s m args below meth c s₁ B hml hv
  obtain ⟨rfl, hP, hK⟩ := hv
  have hx := B.exec
  have hb := B.bytes
  have hr := B.returns
  have hts := atoms_spec (ws := wsX8_deed) B.pre
  have hown : s.vm.findClass RX8 = some m.cls := findClass_of_methodNamed B.named
  have hlocks := B.notSynchronized
  have Z : CallFix p m c cX8_deed 4 s _ wsX8_deed RX8 := ⟨hx, hb, hml, hown, hts⟩
  have hS : va_S (AG G) s.heap s.heap [] := va_S.rf
  have inX8 : ∀ w ∈ u_ws RX8 TX8 7, w ∈ wsX8_deed := by decide +kernel
  have inX1 : ∀ w ∈ u_ws RX1 TX1 7, w ∈ wsX8_deed := by decide +kernel
  have w1 := hts (.fieldLink RX8 27 "AlmanacOfTheYearGone" "now" "LAlmanacOfTheYearGone$Year;") (by decide +kernel)
  have w2 := hts (.initialized RX7) (by decide +kernel)
  have w3n : va_Nw (.methodLinkNest "AlmanacOfTheYearGone" 78 ⟨"AlmanacOfTheYearGone$Year", "deedAt", "(I)LAlmanacOfTheYearGone$Deed;"⟩ "AlmanacOfTheYearGone") s := hK.2 _ (List.mem_of_getElem? (i := 52) rfl)
  have w3 := va_Nw.use (A := [.ref (gA G 0), .int x1, .int x2].toArray) rfl w3n
  have w4 := hts (.instanceMethod yX7_deedAt) (by decide +kernel)
  have w5 := hts (.selects RX7 yX7_deedAt yX7_deedAt) (by decide +kernel)
  have w6n : va_Nw (.fieldLinkNest "AlmanacOfTheYearGone" 82 "AlmanacOfTheYearGone$Deed" "kind" "I" "AlmanacOfTheYearGone") s := hK.2 _ (List.mem_of_getElem? (i := 9) rfl)
  have w6 := va_Nw.use (A := [.ref (gA G 0), .int x1, .int x2].toArray) rfl w6n
  have w7n : va_Nw (.fieldLinkNest "AlmanacOfTheYearGone" 85 "AlmanacOfTheYearGone$Deed" "figure" "I" "AlmanacOfTheYearGone") s := hK.2 _ (List.mem_of_getElem? (i := 11) rfl)
  have w7 := va_Nw.use (A := [.ref (gA G 0), .int x1, .int x2].toArray) rfl w7n
  have w8n : va_Nw (.fieldLinkNest "AlmanacOfTheYearGone" 88 "AlmanacOfTheYearGone$Deed" "day" "I" "AlmanacOfTheYearGone") s := hK.2 _ (List.mem_of_getElem? (i := 13) rfl)
  have w8 := va_Nw.use (A := [.ref (gA G 0), .int x1, .int x2].toArray) rfl w8n
  have w9n : va_Nw (.fieldLinkNest "AlmanacOfTheYearGone" 91 "AlmanacOfTheYearGone$Deed" "who" "I" "AlmanacOfTheYearGone") s := hK.2 _ (List.mem_of_getElem? (i := 17) rfl)
  have w9 := va_Nw.use (A := [.ref (gA G 0), .int x1, .int x2].toArray) rfl w9n
  have w10n : va_Nw (.fieldLinkNest "AlmanacOfTheYearGone" 94 "AlmanacOfTheYearGone$Deed" "seen" "I" "AlmanacOfTheYearGone") s := hK.2 _ (List.mem_of_getElem? (i := 21) rfl)
  have w10 := va_Nw.use (A := [.ref (gA G 0), .int x1, .int x2].toArray) rfl w10n
  have w11n : va_Nw (.fieldLinkNest "AlmanacOfTheYearGone" 97 "AlmanacOfTheYearGone$Deed" "lasting" "I" "AlmanacOfTheYearGone") s := hK.2 _ (List.mem_of_getElem? (i := 22) rfl)
  have w11 := va_Nw.use (A := [.ref (gA G 0), .int x1, .int x2].toArray) rfl w11n
  have w12n : va_Nw (.fieldLinkNest "AlmanacOfTheYearGone" 100 "AlmanacOfTheYearGone$Deed" "lastingOwn" "I" "AlmanacOfTheYearGone") s := hK.2 _ (List.mem_of_getElem? (i := 24) rfl)
  have w12 := va_Nw.use (A := [.ref (gA G 0), .int x1, .int x2].toArray) rfl w12n
  have w13 := hts (.initialized RX1) (by decide +kernel)
  have w14n : va_Nw (.methodLinkNest "AlmanacOfTheYearGone" 103 ⟨"AlmanacOfTheYearGone$Deed", "size", "()I"⟩ "AlmanacOfTheYearGone") s := hK.2 _ (List.mem_of_getElem? (i := 53) rfl)
  have w14 := va_Nw.use (A := [.ref (gA G 0), .int x1, .int x2].toArray) rfl w14n
  have w15 := hts (.instanceMethod yX1_size) (by decide +kernel)
  have w16 := hts (.selects RX1 yX1_size yX1_size) (by decide +kernel)
  have hl := lv_entry ([.ref (gA G 0), .int x1, .int x2]) (n := 4) (Nat.le_of_ble_eq_true rfl)
  rw [lg_entry_eq]
  generalize (lg_sl ([.ref (gA G 0), .int x1, .int x2]) ++ List.replicate (4 - (lg_sl ([.ref (gA G 0), .int x1, .int x2])).length) Slot.unset).toArray = ls at hl ⊢
  have hl : lv_has ls 4 [(0, .ref (gA G 0)), (1, .int x1), (2, .int x2)] := hl
  unfold f_X8_deed at hF
  refine lv_aload_n hx hb dX8_deed_0 rfl (lv_at hl 0 rfl) ?_
  refine va_get (ci := 4) (C := RX8) (T := TX8) (N := 7) (v := .ref (gA G 21)) hx hb hts inX8 hown hK.1 hP 0 (at_4 rfl) rfl 2 (by decide) w1 (fun _ h9 => h9) rfl dX8_deed_1 ?_
  refine lv_iload_n hx hb dX8_deed_4 rfl (lv_at hl 1 rfl) ?_
  obtain ⟨q1, h2, hF⟩ := ob_some hF
  refine k_VNv (As := [.int x1]) (rest := []) Z hK hP hS (t_X7_deedAt l G hG 21 x1 (rfl : kd 21 = 3) σ _ h2) ⟨va_cnB 1 hts gX8_deed_X7_deedAt_n78 rfl rfl rfl w3n w2 (by decide +kernel) ⟨Nat.le_of_ble_eq_true rfl, Nat.le_of_ble_eq_true rfl⟩, w4, w5⟩ (at_3 (rfl : kd 21 = 3)) rfl rfl hl.1 rfl (Nat.le_of_ble_eq_true rfl) ⟨Nat.zero_le _, Nat.zero_le _⟩ dX8_deed_5 (fun H locs hP hS => ?_)
  rcases q1 with _ | i3
  · have hF := oc_n hF
    refine W.eq (g2 := F0 m 8 ls [.null]) rfl ?_
    refine lv_astore_nN (lv' := [(3, .null), (0, .ref (gA G 0)), (1, .int x1), (2, .int x2)]) hx hb dX8_deed_8 rfl hl (by decide) rfl (fun ls hl => ?_)
    refine lv_aload_nN hx hb dX8_deed_9 rfl (lv_at hl 0 rfl) ?_
    refine lv_ifnonnullN hx hb dX8_deed_10 ?_
    refine lv_iconst (v := -1) hx hb dX8_deed_13 (by decide) ?_
    exact e_iP hx hb hr hP hS hlocks dX8_deed_14 hF
  · have hF := oc_s hF
    have ki3 : kd i3 = 1 := q_X7_deedAt (rfl : kd 21 = 3) h2
    refine W.eq (g2 := F0 m 8 ls [.ref (gA G i3)]) rfl ?_
    refine lv_astore_n (lv' := [(3, .ref (gA G i3)), (0, .ref (gA G 0)), (1, .int x1), (2, .int x2)]) hx hb dX8_deed_8 rfl hl (by decide) rfl (fun ls hl => ?_)
    refine lv_aload_n hx hb dX8_deed_9 rfl (lv_at hl 0 rfl) ?_
    refine lv_ifnonnull (tgt := 15) hx hb dX8_deed_10 (by decide) ?_
    refine lv_iload_n hx hb dX8_deed_15 rfl (lv_at hl 3 rfl) ?_
    by_cases c4 : x2 = (0 : Int32)
    · have hF := ite_t c4 hF
      refine lv_tableIn (off := 48) (tgt := 64) hx hb dX8_deed_16 (by rw [c4]; decide) (by rw [c4]; decide) (by rw [c4]; rfl) (by decide) ?_
      refine lv_aload_n hx hb dX8_deed_64 rfl (lv_at hl 0 rfl) ?_
      refine va_getN (ci := 1) (C := RX1) (T := TX1) (N := 7) (v := .int (σ i3 0)) hx hb hts inX1 hown hK.1 hP i3 (at_1 ki3) rfl 0 (by decide) w6 (fun _ h9 => h9) rfl dX8_deed_65 ?_
      exact e_iP hx hb hr hP hS hlocks dX8_deed_68 hF
    · have hF := ite_f c4 hF
      by_cases c5 : x2 = (1 : Int32)
      · have hF := ite_t c5 hF
        refine lv_tableIn (off := 53) (tgt := 69) hx hb dX8_deed_16 (by rw [c5]; decide) (by rw [c5]; decide) (by rw [c5]; rfl) (by decide) ?_
        refine lv_aload_n hx hb dX8_deed_69 rfl (lv_at hl 0 rfl) ?_
        refine va_getN (ci := 1) (C := RX1) (T := TX1) (N := 7) (v := .int (σ i3 1)) hx hb hts inX1 hown hK.1 hP i3 (at_1 ki3) rfl 1 (by decide) w7 (fun _ h9 => h9) rfl dX8_deed_70 ?_
        exact e_iP hx hb hr hP hS hlocks dX8_deed_73 hF
      · have hF := ite_f c5 hF
        by_cases c6 : x2 = (2 : Int32)
        · have hF := ite_t c6 hF
          refine lv_tableIn (off := 58) (tgt := 74) hx hb dX8_deed_16 (by rw [c6]; decide) (by rw [c6]; decide) (by rw [c6]; rfl) (by decide) ?_
          refine lv_aload_n hx hb dX8_deed_74 rfl (lv_at hl 0 rfl) ?_
          refine va_getN (ci := 1) (C := RX1) (T := TX1) (N := 7) (v := .int (σ i3 2)) hx hb hts inX1 hown hK.1 hP i3 (at_1 ki3) rfl 2 (by decide) w8 (fun _ h9 => h9) rfl dX8_deed_75 ?_
          exact e_iP hx hb hr hP hS hlocks dX8_deed_78 hF
        · have hF := ite_f c6 hF
          by_cases c7 : x2 = (3 : Int32)
          · have hF := ite_t c7 hF
            refine lv_tableIn (off := 63) (tgt := 79) hx hb dX8_deed_16 (by rw [c7]; decide) (by rw [c7]; decide) (by rw [c7]; rfl) (by decide) ?_
            refine lv_aload_n hx hb dX8_deed_79 rfl (lv_at hl 0 rfl) ?_
            refine va_getN (ci := 1) (C := RX1) (T := TX1) (N := 7) (v := .int (σ i3 3)) hx hb hts inX1 hown hK.1 hP i3 (at_1 ki3) rfl 3 (by decide) w9 (fun _ h9 => h9) rfl dX8_deed_80 ?_
            exact e_iP hx hb hr hP hS hlocks dX8_deed_83 hF
          · have hF := ite_f c7 hF
            by_cases c8 : x2 = (4 : Int32)
            · have hF := ite_t c8 hF
              refine lv_tableIn (off := 68) (tgt := 84) hx hb dX8_deed_16 (by rw [c8]; decide) (by rw [c8]; decide) (by rw [c8]; rfl) (by decide) ?_
              refine lv_aload_n hx hb dX8_deed_84 rfl (lv_at hl 0 rfl) ?_
              refine va_getN (ci := 1) (C := RX1) (T := TX1) (N := 7) (v := .int (σ i3 4)) hx hb hts inX1 hown hK.1 hP i3 (at_1 ki3) rfl 4 (by decide) w10 (fun _ h9 => h9) rfl dX8_deed_85 ?_
              exact e_iP hx hb hr hP hS hlocks dX8_deed_88 hF
            · have hF := ite_f c8 hF
              by_cases c9 : x2 = (5 : Int32)
              · have hF := ite_t c9 hF
                refine lv_tableIn (off := 73) (tgt := 89) hx hb dX8_deed_16 (by rw [c9]; decide) (by rw [c9]; decide) (by rw [c9]; rfl) (by decide) ?_
                refine lv_aload_n hx hb dX8_deed_89 rfl (lv_at hl 0 rfl) ?_
                refine va_getN (ci := 1) (C := RX1) (T := TX1) (N := 7) (v := .int (σ i3 5)) hx hb hts inX1 hown hK.1 hP i3 (at_1 ki3) rfl 5 (by decide) w11 (fun _ h9 => h9) rfl dX8_deed_90 ?_
                exact e_iP hx hb hr hP hS hlocks dX8_deed_93 hF
              · have hF := ite_f c9 hF
                by_cases c10 : x2 = (6 : Int32)
                · have hF := ite_t c10 hF
                  refine lv_tableIn (off := 78) (tgt := 94) hx hb dX8_deed_16 (by rw [c10]; decide) (by rw [c10]; decide) (by rw [c10]; rfl) (by decide) ?_
                  refine lv_aload_n hx hb dX8_deed_94 rfl (lv_at hl 0 rfl) ?_
                  refine va_getN (ci := 1) (C := RX1) (T := TX1) (N := 7) (v := .int (σ i3 6)) hx hb hts inX1 hown hK.1 hP i3 (at_1 ki3) rfl 6 (by decide) w12 (fun _ h9 => h9) rfl dX8_deed_95 ?_
                  exact e_iP hx hb hr hP hS hlocks dX8_deed_98 hF
                · have hF := ite_f c10 hF
                  by_cases c11 : x2 = (7 : Int32)
                  · have hF := ite_t c11 hF
                    refine lv_tableIn (off := 83) (tgt := 99) hx hb dX8_deed_16 (by rw [c11]; decide) (by rw [c11]; decide) (by rw [c11]; rfl) (by decide) ?_
                    refine lv_aload_n hx hb dX8_deed_99 rfl (lv_at hl 0 rfl) ?_
                    refine k_VNv (As := []) (rest := []) Z hK hP hS (t_X1_size l G hG i3 ki3 σ) ⟨va_cnB 0 hts gX8_deed_X1_size_n103 rfl rfl rfl w14n w13 (by decide +kernel) ⟨Nat.le_of_ble_eq_true rfl, Nat.le_of_ble_eq_true rfl⟩, w15, w16⟩ (at_1 ki3) rfl rfl hl.1 rfl (Nat.le_of_ble_eq_true rfl) ⟨Nat.zero_le _, Nat.zero_le _⟩ dX8_deed_100 (fun H locs hP hS => ?_)
                    exact e_iP hx hb hr hP hS hlocks dX8_deed_103 hF
                  · have hF := ite_f c11 hF
                    have n0 := lv_neT c4 (by decide : ((0 : Int32)).toInt = 0)
                    have n1 := lv_neT c5 (by decide : ((1 : Int32)).toInt = 1)
                    have n2 := lv_neT c6 (by decide : ((2 : Int32)).toInt = 2)
                    have n3 := lv_neT c7 (by decide : ((3 : Int32)).toInt = 3)
                    have n4 := lv_neT c8 (by decide : ((4 : Int32)).toInt = 4)
                    have n5 := lv_neT c9 (by decide : ((5 : Int32)).toInt = 5)
                    have n6 := lv_neT c10 (by decide : ((6 : Int32)).toInt = 6)
                    have n7 := lv_neT c11 (by decide : ((7 : Int32)).toInt = 7)
                    refine lv_tableOut (tgt := 104) hx hb dX8_deed_16 (by omega) (by decide) ?_
                    refine lv_iconst (v := -1) hx hb dX8_deed_104 (by decide) ?_
                    exact e_iP hx hb hr hP hS hlocks dX8_deed_105 hF
def f_X8_guilt (x1 : Int32) (σ : St) : Option Int32 := (ob (f_X7_deedAt 21 x1 σ) (fun q1 => oc q1 ((some (1000000001 : Int32))) (fun i3 => (some (f_X1_burden i3 σ)))))
set_option maxRecDepth 100000 in
set_option maxHeartbeats 4000000 in
theorem t_X8_guilt (l : Launch) (G : GT) (hG : Dw G) (x1 : Int32) (σ : St) (o : Int32) (hF : f_X8_guilt x1 σ = some o) : Ct l G yX8_guilt wsX8_guilt 2 44 [.ref (gA G 0), .int x1] σ (some (.int o)) σ := by
  refine Met.ofW (cc := cX8_guilt) (maxL := 3) (ret := (some .int)) (by decide) rfl ?_
  intro p e s m args below meth c s₁ B hml hv
  obtain ⟨rfl, hP, hK⟩ := hv
  have hx := B.exec
  have hb := B.bytes
  have hr := B.returns
  have hts := atoms_spec (ws := wsX8_guilt) B.pre
  have hown : s.vm.findClass RX8 = some m.cls := findClass_of_methodNamed B.named
  have hlocks := B.notSynchronized
  have Z : CallFix p m c cX8_guilt 3 s _ wsX8_guilt RX8 := ⟨hx, hb, hml, hown, hts⟩
  have hS : va_S (AG G) s.heap s.heap [] := va_S.rf
  have inX8 : ∀ w ∈ u_ws RX8 TX8 7, w ∈ wsX8_guilt := by decide +kernel
  have w1 := hts (.fieldLink RX8 27 "AlmanacOfTheYearGone" "now" "LAlmanacOfTheYearGone$Year;") (by decide +kernel)
  have w2 := hts (.initialized RX7) (by decide +kernel)
  have w3n : va_Nw (.methodLinkNest "AlmanacOfTheYearGone" 78 ⟨"AlmanacOfTheYearGone$Year", "deedAt", "(I)LAlmanacOfTheYearGone$Deed;"⟩ "AlmanacOfTheYearGone") s := hK.2 _ (List.mem_of_getElem? (i := 52) rfl)
  have w3 := va_Nw.use (A := [.ref (gA G 0), .int x1].toArray) rfl w3n
  have w4 := hts (.instanceMethod yX7_deedAt) (by decide +kernel)
  have w5 := hts (.selects RX7 yX7_deedAt yX7_deedAt) (by decide +kernel)
  have w6 := hts (.constant RX8 107 (1000000001)) (by decide +kernel)
  have w7 := hts (.initialized RX1) (by decide +kernel)
  have w8n : va_Nw (.methodLinkNest "AlmanacOfTheYearGone" 108 ⟨"AlmanacOfTheYearGone$Deed", "burden", "()I"⟩ "AlmanacOfTheYearGone") s := hK.2 _ (List.mem_of_getElem? (i := 55) rfl)
  have w8 := va_Nw.use (A := [.ref (gA G 0), .int x1].toArray) rfl w8n
  have w9 := hts (.instanceMethod yX1_burden) (by decide +kernel)
  have w10 := hts (.selects RX1 yX1_burden yX1_burden) (by decide +kernel)
  have hl := lv_entry ([.ref (gA G 0), .int x1]) (n := 3) (Nat.le_of_ble_eq_true rfl)
  rw [lg_entry_eq]
  generalize (lg_sl ([.ref (gA G 0), .int x1]) ++ List.replicate (3 - (lg_sl ([.ref (gA G 0), .int x1])).length) Slot.unset).toArray = ls at hl ⊢
  have hl : lv_has ls 3 [(0, .ref (gA G 0)), (1, .int x1)] := hl
  unfold f_X8_guilt at hF
  refine lv_aload_n hx hb dX8_guilt_0 rfl (lv_at hl 0 rfl) ?_
  refine va_get (ci := 4) (C := RX8) (T := TX8) (N := 7) (v := .ref (gA G 21)) hx hb hts inX8 hown hK.1 hP 0 (at_4 rfl) rfl 2 (by decide) w1 (fun _ h9 => h9) rfl dX8_guilt_1 ?_
  refine lv_iload_n hx hb dX8_guilt_4 rfl (lv_at hl 1 rfl) ?_
  obtain ⟨q1, h2, hF⟩ := ob_some hF
  refine k_VNv (As := [.int x1]) (rest := []) Z hK hP hS (t_X7_deedAt l G hG 21 x1 (rfl : kd 21 = 3) σ _ h2) ⟨va_cnB 1 hts gX8_guilt_X7_deedAt_n78 rfl rfl rfl w3n w2 (by decide +kernel) ⟨Nat.le_of_ble_eq_true rfl, Nat.le_of_ble_eq_true rfl⟩, w4, w5⟩ (at_3 (rfl : kd 21 = 3)) rfl rfl hl.1 rfl (Nat.le_of_ble_eq_true rfl) ⟨Nat.zero_le _, Nat.zero_le _⟩ dX8_guilt_5 (fun H locs hP hS => ?_)
  rcases q1 with _ | i3
  · have hF := oc_n hF
    refine W.eq (g2 := F0 m 8 ls [.null]) rfl ?_
    refine lv_astore_nN (lv' := [(2, .null), (0, .ref (gA G 0)), (1, .int x1)]) hx hb dX8_guilt_8 rfl hl (by decide) rfl (fun ls hl => ?_)
    refine lv_aload_nN hx hb dX8_guilt_9 rfl (lv_at hl 0 rfl) ?_
    refine lv_ifnonnullN hx hb dX8_guilt_10 ?_
    refine lv_ldc hx hb hown w6 dX8_guilt_13 ?_
    refine lv_goto (tgt := 22) hx hb dX8_guilt_15 (by decide) ?_
    exact e_iP hx hb hr hP hS hlocks dX8_guilt_22 hF
  · have hF := oc_s hF
    have ki3 : kd i3 = 1 := q_X7_deedAt (rfl : kd 21 = 3) h2
    refine W.eq (g2 := F0 m 8 ls [.ref (gA G i3)]) rfl ?_
    refine lv_astore_n (lv' := [(2, .ref (gA G i3)), (0, .ref (gA G 0)), (1, .int x1)]) hx hb dX8_guilt_8 rfl hl (by decide) rfl (fun ls hl => ?_)
    refine lv_aload_n hx hb dX8_guilt_9 rfl (lv_at hl 0 rfl) ?_
    refine lv_ifnonnull (tgt := 18) hx hb dX8_guilt_10 (by decide) ?_
    refine lv_aload_n hx hb dX8_guilt_18 rfl (lv_at hl 0 rfl) ?_
    refine k_VNv (As := []) (rest := []) Z hK hP hS (t_X1_burden l G hG i3 ki3 σ) ⟨va_cnB 0 hts gX8_guilt_X1_burden_n108 rfl rfl rfl w8n w7 (by decide +kernel) ⟨Nat.le_of_ble_eq_true rfl, Nat.le_of_ble_eq_true rfl⟩, w9, w10⟩ (at_1 ki3) rfl rfl hl.1 rfl (Nat.le_of_ble_eq_true rfl) ⟨Nat.zero_le _, Nat.zero_le _⟩ dX8_guilt_19 (fun H locs hP hS => ?_)
    exact e_iP hx hb hr hP hS hlocks dX8_guilt_22 hF
def f_X8_kindRefusal (q0 : Option Nat) (σ : St) : Int32 := oc q0 ((f_X8_refusal none (0 : Int32) σ)) (fun i0 => (f_X8_refusal (some i0) (0 : Int32) σ))
set_option maxRecDepth 100000 in
set_option maxHeartbeats 4000000 in
theorem t_X8_kindRefusal (l : Launch) (G : GT) (hG : Dw G) (q0 : Option Nat) (hk0 : ∀ i, q0 = some i → kd i = 2) (σ : St) : Ct l G yX8_kindRefusal wsX8_kindRefusal 2 41 [oref G q0] σ (some (.int (f_X8_kindRefusal q0 σ))) σ := by
  rcases q0 with _ | i0
  · change Ct l G yX8_kindRefusal wsX8_kindRefusal 2 41 [.null] σ (some (.int (f_X8_kindRefusal none σ))) σ
    obtain ⟨o, hF⟩ : ∃ o, f_X8_kindRefusal none σ = o := ⟨_, rfl⟩
    rw [hF]
    refine Met.ofW (cc := cX8_kindRefusal) (maxL := 1) (ret := (some .int)) (by decide) rfl ?_
    intro p e s m args below meth c s₁ B hml hv
    obtain ⟨rfl, hP, hK⟩ := hv
    have hx := B.exec
    have hb := B.bytes
    have hr := B.returns
    have hts := atoms_spec (ws := wsX8_kindRefusal) B.pre
    have hown : s.vm.findClass RX8 = some m.cls := findClass_of_methodNamed B.named
    have hlocks := B.notSynchronized
    have Z : CallFix p m c cX8_kindRefusal 1 s _ wsX8_kindRefusal RX8 := ⟨hx, hb, hml, hown, hts⟩
    have hS : va_S (AG G) s.heap s.heap [] := va_S.rf
    have hl := lv_entry ([.null]) (n := 1) (Nat.le_of_ble_eq_true rfl)
    rw [lg_entry_eq]
    generalize (lg_sl ([.null]) ++ List.replicate (1 - (lg_sl ([.null])).length) Slot.unset).toArray = ls at hl ⊢
    unfold f_X8_kindRefusal at hF
    have hF := oc_n hF
    have hl : lv_has ls 1 [(0, .null)] := hl
    refine lv_aload_nN hx hb dX8_kindRefusal_0 rfl (lv_at hl 0 rfl) ?_
    refine lv_iconst (v := 0) hx hb dX8_kindRefusal_1 (by decide) ?_
    refine k_Sv (As := [.null, .int (0 : Int32)]) (rest := []) Z hK hP hS (t_X8_refusal l G hG none (0 : Int32) (fun _ h9 => by cases h9) σ) (va_cwS 2 hts gX8_kindRefusal_X8_refusal rfl rfl rfl (by decide +kernel) ⟨Nat.le_of_ble_eq_true rfl, Nat.le_of_ble_eq_true rfl⟩) rfl hl.1 rfl (Nat.le_of_ble_eq_true rfl) ⟨Nat.zero_le _, Nat.zero_le _⟩ dX8_kindRefusal_2 (fun H locs hP hS => ?_)
    exact e_iT hx hb hr hP hS hlocks dX8_kindRefusal_5 hF
  · change Ct l G yX8_kindRefusal wsX8_kindRefusal 2 41 [.ref (gA G i0)] σ (some (.int (f_X8_kindRefusal (some i0) σ))) σ
    obtain ⟨o, hF⟩ : ∃ o, f_X8_kindRefusal (some i0) σ = o := ⟨_, rfl⟩
    rw [hF]
    refine Met.ofW (cc := cX8_kindRefusal) (maxL := 1) (ret := (some .int)) (by decide) rfl ?_
    intro p e s m args below meth c s₁ B hml hv
    obtain ⟨rfl, hP, hK⟩ := hv
    have hx := B.exec
    have hb := B.bytes
    have hr := B.returns
    have hts := atoms_spec (ws := wsX8_kindRefusal) B.pre
    have hown : s.vm.findClass RX8 = some m.cls := findClass_of_methodNamed B.named
    have hlocks := B.notSynchronized
    have Z : CallFix p m c cX8_kindRefusal 1 s _ wsX8_kindRefusal RX8 := ⟨hx, hb, hml, hown, hts⟩
    have hS : va_S (AG G) s.heap s.heap [] := va_S.rf
    have hl := lv_entry ([.ref (gA G i0)]) (n := 1) (Nat.le_of_ble_eq_true rfl)
    rw [lg_entry_eq]
    generalize (lg_sl ([.ref (gA G i0)]) ++ List.replicate (1 - (lg_sl ([.ref (gA G i0)])).length) Slot.unset).toArray = ls at hl ⊢
    unfold f_X8_kindRefusal at hF
    have hF := oc_s hF
    have hk0 := hk0 i0 rfl
    have hl : lv_has ls 1 [(0, .ref (gA G i0))] := hl
    refine lv_aload_n hx hb dX8_kindRefusal_0 rfl (lv_at hl 0 rfl) ?_
    refine lv_iconst (v := 0) hx hb dX8_kindRefusal_1 (by decide) ?_
    refine k_Sv (As := [.ref (gA G i0), .int (0 : Int32)]) (rest := []) Z hK hP hS (t_X8_refusal l G hG (some i0) (0 : Int32) (fun _ h9 => by cases h9; exact hk0) σ) (va_cwS 2 hts gX8_kindRefusal_X8_refusal rfl rfl rfl (by decide +kernel) ⟨Nat.le_of_ble_eq_true rfl, Nat.le_of_ble_eq_true rfl⟩) rfl hl.1 rfl (Nat.le_of_ble_eq_true rfl) ⟨Nat.zero_le _, Nat.zero_le _⟩ dX8_kindRefusal_2 (fun H locs hP hS => ?_)
    exact e_iT hx hb hr hP hS hlocks dX8_kindRefusal_5 hF
def f_X8_done (x1 : Int32) (x2 : Int32) (x3 : Int32) (x4 : Int32) (σ : St) : Option (Int32 × St) := (if (f_X8_isWithin x2 (364 : Int32)) = true then (if (f_X8_isBelow x3 (5 : Int32)) = true then (if (f_X8_isWithin x4 (31 : Int32)) = true then (ob (f_X8_shelfAt x1 σ) (fun q4 => oc q4 ((some (f_X8_kindRefusal none σ, σ))) (fun i6 => (if (f_X8_kindRefusal (some i6) σ) = 0 then (ob (f_X7_add 21 (σ i6 3) (σ i6 4) x2 x3 x4 σ) (fun q8 => if q8.1 = true then (some ((q8.2 21 2) - (1 : Int32), q8.2)) else (some ((-2 : Int32), q8.2)))) else (some (f_X8_kindRefusal (some i6) σ, σ)))))) else (some ((-1 : Int32), σ))) else (some ((-1 : Int32), σ))) else (some ((-1 : Int32), σ)))
set_option maxRecDepth 100000 in
set_option maxHeartbeats 4000000 in
theorem t_X8_done (l : Launch) (G : GT) (hG : Dw G) (x1 : Int32) (x2 : Int32) (x3 : Int32) (x4 : Int32) (σ : St) (o : Int32 × St) (hF : f_X8_done x1 x2 x3 x4 σ = some o) : Ct l G yX8_done wsX8_done 3 74 [.ref (gA G 0), .int x1, .int x2, .int x3, .int x4] σ (some (.int o.1)) o.2 := by
  refine Met.ofW (cc := cX8_done) (maxL := 7) (ret := (some .int)) (by decide) rfl ?_
  intro p e s m args below meth c s₁ B hml hv
  obtain ⟨rfl, hP, hK⟩ := hv
  have hx := B.exec
  have hb := B.bytes
  have hr := B.returns
  have hts := atoms_spec (ws := wsX8_done) B.pre
  have hown : s.vm.findClass RX8 = some m.cls := findClass_of_methodNamed B.named
  have hlocks := B.notSynchronized
  have Z : CallFix p m c cX8_done 7 s _ wsX8_done RX8 := ⟨hx, hb, hml, hown, hts⟩
  have hS : va_S (AG G) s.heap s.heap [] := va_S.rf
  have inX8 : ∀ w ∈ u_ws RX8 TX8 7, w ∈ wsX8_done := by decide +kernel
  have inX5 : ∀ w ∈ u_ws RX5 TX5 5, w ∈ wsX8_done := by decide +kernel
  have inX7 : ∀ w ∈ u_ws RX7 TX7 4, w ∈ wsX8_done := by decide +kernel
  have w1 := hts (.fieldLink RX8 27 "AlmanacOfTheYearGone" "now" "LAlmanacOfTheYearGone$Year;") (by decide +kernel)
  have w2n : va_Nw (.fieldLinkNest "AlmanacOfTheYearGone" 121 "AlmanacOfTheYearGone$Shelf" "kind" "I" "AlmanacOfTheYearGone") s := hK.2 _ (List.mem_of_getElem? (i := 6) rfl)
  have w2 := va_Nw.use (A := [.ref (gA G 0), .int x1, .int x2, .int x3, .int x4].toArray) rfl w2n
  have w3n : va_Nw (.fieldLinkNest "AlmanacOfTheYearGone" 122 "AlmanacOfTheYearGone$Shelf" "figure" "I" "AlmanacOfTheYearGone") s := hK.2 _ (List.mem_of_getElem? (i := 7) rfl)
  have w3 := va_Nw.use (A := [.ref (gA G 0), .int x1, .int x2, .int x3, .int x4].toArray) rfl w3n
  have w4 := hts (.initialized RX7) (by decide +kernel)
  have w5n : va_Nw (.methodLinkNest "AlmanacOfTheYearGone" 123 ⟨"AlmanacOfTheYearGone$Year", "add", "(IIIII)Z"⟩ "AlmanacOfTheYearGone") s := hK.2 _ (List.mem_of_getElem? (i := 57) rfl)
  have w5 := va_Nw.use (A := [.ref (gA G 0), .int x1, .int x2, .int x3, .int x4].toArray) rfl w5n
  have w6 := hts (.instanceMethod yX7_add) (by decide +kernel)
  have w7 := hts (.selects RX7 yX7_add yX7_add) (by decide +kernel)
  have w8n : va_Nw (.fieldLinkNest "AlmanacOfTheYearGone" 127 "AlmanacOfTheYearGone$Year" "deedCount" "I" "AlmanacOfTheYearGone") s := hK.2 _ (List.mem_of_getElem? (i := 26) rfl)
  have w8 := va_Nw.use (A := [.ref (gA G 0), .int x1, .int x2, .int x3, .int x4].toArray) rfl w8n
  have hl := lv_entry ([.ref (gA G 0), .int x1, .int x2, .int x3, .int x4]) (n := 7) (Nat.le_of_ble_eq_true rfl)
  rw [lg_entry_eq]
  generalize (lg_sl ([.ref (gA G 0), .int x1, .int x2, .int x3, .int x4]) ++ List.replicate (7 - (lg_sl ([.ref (gA G 0), .int x1, .int x2, .int x3, .int x4])).length) Slot.unset).toArray = ls at hl ⊢
  have hl : lv_has ls 7 [(0, .ref (gA G 0)), (1, .int x1), (2, .int x2), (3, .int x3), (4, .int x4)] := hl
  unfold f_X8_done at hF
  refine lv_iload_n hx hb dX8_done_0 rfl (lv_at hl 2 rfl) ?_
  refine lv_sipush (v := 364) hx hb dX8_done_1 (by decide) ?_
  refine k_Sv (As := [.int x2, .int (364 : Int32)]) (rest := []) Z hK hP hS (t_X8_isWithin l G hG x2 (364 : Int32) σ) (va_cwS 2 hts gX8_done_X8_isWithin rfl rfl rfl (by decide +kernel) ⟨Nat.le_of_ble_eq_true rfl, Nat.le_of_ble_eq_true rfl⟩) rfl hl.1 rfl (Nat.le_of_ble_eq_true rfl) ⟨Nat.zero_le _, Nat.zero_le _⟩ dX8_done_4 (fun H locs hP hS => ?_)
  refine lv_if_eq (tgt := 28) hx hb dX8_done_7 (by decide) (fun c1 => ?_) (fun c1 => ?_)
  · have hF := ite_f (b2i_e0 c1) hF
    refine lv_iconst (v := -1) hx hb dX8_done_28 (by decide) ?_
    exact e_iS hx hb hr hP hS hlocks dX8_done_29 hF
  · have hF := ite_t (b2i_n0 c1) hF
    refine lv_iload_n hx hb dX8_done_10 rfl (lv_at hl 3 rfl) ?_
    refine lv_iconst (v := 5) hx hb dX8_done_11 (by decide) ?_
    refine k_Sv (As := [.int x3, .int (5 : Int32)]) (rest := []) Z hK hP hS (t_X8_isBelow l G hG x3 (5 : Int32) σ) (va_cwS 2 hts gX8_done_X8_isBelow rfl rfl rfl (by decide +kernel) ⟨Nat.le_of_ble_eq_true rfl, Nat.le_of_ble_eq_true rfl⟩) rfl hl.1 rfl (Nat.le_of_ble_eq_true rfl) ⟨Nat.zero_le _, Nat.zero_le _⟩ dX8_done_12 (fun H locs hP hS => ?_)
    refine lv_if_eq (tgt := 28) hx hb dX8_done_15 (by decide) (fun c2 => ?_) (fun c2 => ?_)
    · have hF := ite_f (b2i_e0 c2) hF
      refine lv_iconst (v := -1) hx hb dX8_done_28 (by decide) ?_
      exact e_iS hx hb hr hP hS hlocks dX8_done_29 hF
    · have hF := ite_t (b2i_n0 c2) hF
      refine lv_iload hx hb dX8_done_18 (lv_at hl 4 rfl) ?_
      refine lv_bipush (v := 31) hx hb dX8_done_20 (by decide) ?_
      refine k_Sv (As := [.int x4, .int (31 : Int32)]) (rest := []) Z hK hP hS (t_X8_isWithin l G hG x4 (31 : Int32) σ) (va_cwS 2 hts gX8_done_X8_isWithin rfl rfl rfl (by decide +kernel) ⟨Nat.le_of_ble_eq_true rfl, Nat.le_of_ble_eq_true rfl⟩) rfl hl.1 rfl (Nat.le_of_ble_eq_true rfl) ⟨Nat.zero_le _, Nat.zero_le _⟩ dX8_done_22 (fun H locs hP hS => ?_)
      refine lv_if_ne (tgt := 30) hx hb dX8_done_25 (by decide) (fun c3 => ?_) (fun c3 => ?_)
      · have hF := ite_t (b2i_n0 c3) hF
        refine lv_aload_n hx hb dX8_done_30 rfl (lv_at hl 0 rfl) ?_
        refine lv_iload_n hx hb dX8_done_31 rfl (lv_at hl 1 rfl) ?_
        obtain ⟨q4, h5, hF⟩ := ob_some hF
        refine k_Vv (As := [.int x1]) (rest := []) Z hK hP hS (t_X8_shelfAt l G hG x1 σ _ h5) (cwV 1 hts gX8_done_X8_shelfAt rfl rfl rfl (by decide +kernel) ⟨Nat.le_of_ble_eq_true rfl, Nat.le_of_ble_eq_true rfl⟩) (at_4 rfl) rfl rfl hl.1 rfl (Nat.le_of_ble_eq_true rfl) ⟨Nat.zero_le _, Nat.zero_le _⟩ dX8_done_32 (fun H locs hP hS => ?_)
        rcases q4 with _ | i6
        · have hF := oc_n hF
          refine W.eq (g2 := F0 m 35 ls [.null]) rfl ?_
          refine lv_astoreN (lv' := [(5, .null), (0, .ref (gA G 0)), (1, .int x1), (2, .int x2), (3, .int x3), (4, .int x4)]) hx hb dX8_done_35 hl (by decide) rfl (fun ls hl => ?_)
          refine lv_aloadN hx hb dX8_done_37 (lv_at hl 0 rfl) ?_
          refine k_Sv (As := [.null]) (rest := []) Z hK hP hS (t_X8_kindRefusal l G hG none (fun _ h9 => by cases h9) σ) (va_cwS 1 hts gX8_done_X8_kindRefusal rfl rfl rfl (by decide +kernel) ⟨Nat.le_of_ble_eq_true rfl, Nat.le_of_ble_eq_true rfl⟩) rfl hl.1 rfl (Nat.le_of_ble_eq_true rfl) ⟨Nat.zero_le _, Nat.zero_le _⟩ dX8_done_39 (fun H locs hP hS => ?_)
          refine lv_istore (lv' := [(6, .int (f_X8_kindRefusal none σ)), (5, .null), (0, .ref (gA G 0)), (1, .int x1), (2, .int x2), (3, .int x3), (4, .int x4)]) hx hb dX8_done_42 hl (by decide) rfl (fun ls hl => ?_)
          refine lv_aloadN hx hb dX8_done_44 (lv_at hl 1 rfl) ?_
          refine lv_ifnullN (tgt := 54) hx hb dX8_done_46 (by decide) ?_
          refine lv_iload hx hb dX8_done_54 (lv_at hl 0 rfl) ?_
          exact e_iS hx hb hr hP hS hlocks dX8_done_56 hF
        · have hF := oc_s hF
          have ki6 : kd i6 = 2 := q_X8_shelfAt  h5
          refine W.eq (g2 := F0 m 35 ls [.ref (gA G i6)]) rfl ?_
          refine lv_astore (lv' := [(5, .ref (gA G i6)), (0, .ref (gA G 0)), (1, .int x1), (2, .int x2), (3, .int x3), (4, .int x4)]) hx hb dX8_done_35 hl (by decide) rfl (fun ls hl => ?_)
          refine lv_aload hx hb dX8_done_37 (lv_at hl 0 rfl) ?_
          refine k_Sv (As := [.ref (gA G i6)]) (rest := []) Z hK hP hS (t_X8_kindRefusal l G hG (some i6) (fun _ h9 => by cases h9; exact ki6) σ) (va_cwS 1 hts gX8_done_X8_kindRefusal rfl rfl rfl (by decide +kernel) ⟨Nat.le_of_ble_eq_true rfl, Nat.le_of_ble_eq_true rfl⟩) rfl hl.1 rfl (Nat.le_of_ble_eq_true rfl) ⟨Nat.zero_le _, Nat.zero_le _⟩ dX8_done_39 (fun H locs hP hS => ?_)
          refine lv_istore (lv' := [(6, .int (f_X8_kindRefusal (some i6) σ)), (5, .ref (gA G i6)), (0, .ref (gA G 0)), (1, .int x1), (2, .int x2), (3, .int x3), (4, .int x4)]) hx hb dX8_done_42 hl (by decide) rfl (fun ls hl => ?_)
          refine lv_aload hx hb dX8_done_44 (lv_at hl 1 rfl) ?_
          refine lv_ifnull hx hb dX8_done_46 ?_
          refine lv_iload hx hb dX8_done_49 (lv_at hl 0 rfl) ?_
          refine lv_if_eq (tgt := 57) hx hb dX8_done_51 (by decide) (fun c7 => ?_) (fun c7 => ?_)
          · have hF := ite_t c7 hF
            refine lv_aload_n hx hb dX8_done_57 rfl (lv_at hl 2 rfl) ?_
            refine va_get (ci := 4) (C := RX8) (T := TX8) (N := 7) (v := .ref (gA G 21)) hx hb hts inX8 hown hK.1 hP 0 (at_4 rfl) rfl 2 (by decide) w1 (fun _ h9 => h9) rfl dX8_done_58 ?_
            refine lv_aload hx hb dX8_done_61 (lv_at hl 1 rfl) ?_
            refine va_getN (ci := 2) (C := RX5) (T := TX5) (N := 5) (v := .int (σ i6 3)) hx hb hts inX5 hown hK.1 hP i6 (at_2 ki6) rfl 3 (by decide) w2 (fun _ h9 => h9) rfl dX8_done_63 ?_
            refine lv_aload hx hb dX8_done_66 (lv_at hl 1 rfl) ?_
            refine va_getN (ci := 2) (C := RX5) (T := TX5) (N := 5) (v := .int (σ i6 4)) hx hb hts inX5 hown hK.1 hP i6 (at_2 ki6) rfl 4 (by decide) w3 (fun _ h9 => h9) rfl dX8_done_68 ?_
            refine lv_iload_n hx hb dX8_done_71 rfl (lv_at hl 4 rfl) ?_
            refine lv_iload_n hx hb dX8_done_72 rfl (lv_at hl 5 rfl) ?_
            refine lv_iload hx hb dX8_done_73 (lv_at hl 6 rfl) ?_
            obtain ⟨q8, h9, hF⟩ := ob_some hF
            refine k_VNv (As := [.int (σ i6 3), .int (σ i6 4), .int x2, .int x3, .int x4]) (rest := []) Z hK hP hS (t_X7_add l G hG 21 (σ i6 3) (σ i6 4) x2 x3 x4 (rfl : kd 21 = 3) σ _ h9) ⟨va_cnB 5 hts gX8_done_X7_add_n123 rfl rfl rfl w5n w4 (by decide +kernel) ⟨Nat.le_of_ble_eq_true rfl, Nat.le_of_ble_eq_true rfl⟩, w6, w7⟩ (at_3 (rfl : kd 21 = 3)) rfl rfl hl.1 rfl (Nat.le_of_ble_eq_true rfl) ⟨Nat.zero_le _, Nat.zero_le _⟩ dX8_done_75 (fun H locs hP hS => ?_)
            refine lv_if_eq (tgt := 93) hx hb dX8_done_78 (by decide) (fun c10 => ?_) (fun c10 => ?_)
            · have hF := ite_f (b2i_e0 c10) hF
              refine lv_bipush (v := -2) hx hb dX8_done_93 (by decide) ?_
              exact e_iS hx hb hr hP hS hlocks dX8_done_95 hF
            · have hF := ite_t (b2i_n0 c10) hF
              refine lv_aload_n hx hb dX8_done_81 rfl (lv_at hl 2 rfl) ?_
              refine va_get (ci := 4) (C := RX8) (T := TX8) (N := 7) (v := .ref (gA G 21)) hx hb hts inX8 hown hK.1 hP 0 (at_4 rfl) rfl 2 (by decide) w1 (fun _ h9 => h9) rfl dX8_done_82 ?_
              refine va_getN (ci := 3) (C := RX7) (T := TX7) (N := 4) (v := .int (q8.2 21 2)) hx hb hts inX7 hown hK.1 hP 21 (at_3 (rfl : kd 21 = 3)) rfl 2 (by decide) w8 (fun _ h9 => h9) rfl dX8_done_85 ?_
              refine lv_iconst (v := 1) hx hb dX8_done_88 (by decide) ?_
              refine lv_isub hx hb dX8_done_89 ?_
              refine lv_goto (tgt := 95) hx hb dX8_done_90 (by decide) ?_
              exact e_iS hx hb hr hP hS hlocks dX8_done_95 hF
          · have hF := ite_f c7 hF
            refine lv_iload hx hb dX8_done_54 (lv_at hl 0 rfl) ?_
            exact e_iS hx hb hr hP hS hlocks dX8_done_56 hF
      · have hF := ite_f (b2i_e0 c3) hF
        refine lv_iconst (v := -1) hx hb dX8_done_28 (by decide) ?_
        exact e_iS hx hb hr hP hS hlocks dX8_done_29 hF
def f_X8_sees (x1 : Int32) (x2 : Int32) (σ : St) : Option (Int32 × St) := (ob (f_X7_deedAt 21 x1 σ) (fun q1 => oc q1 ((some ((-1 : Int32), σ))) (fun i3 => (if (f_X8_isBelow x2 (5 : Int32)) = true then (if (σ i3 3) = x2 then (some ((-3 : Int32), σ)) else (ob (f_X1_turnSeen i3 x2 σ) (fun q6 => some (((q6 i3 4) >>> (x2 &&& 31)) &&& (1 : Int32), q6)))) else (some ((-1 : Int32), σ))))))
set_option maxRecDepth 100000 in
set_option maxHeartbeats 4000000 in
theorem t_X8_sees (l : Launch) (G : GT) (hG : Dw G) (x1 : Int32) (x2 : Int32) (σ : St) (o : Int32 × St) (hF : f_X8_sees x1 x2 σ = some o) : Ct l G yX8_sees wsX8_sees 1 21 [.ref (gA G 0), .int x1, .int x2] σ (some (.int o.1)) o.2 := by
  refine Met.ofW (cc := cX8_sees) (maxL := 4) (ret := (some .int)) (by decide) rfl ?_
  intro p e s m args below meth c s₁ B hml hv
  obtain ⟨rfl, hP, hK⟩ := hv
  have hx := B.exec
  have hb := B.bytes
  have hr := B.returns
  have hts := atoms_spec (ws := wsX8_sees) B.pre
  have hown : s.vm.findClass RX8 = some m.cls := findClass_of_methodNamed B.named
  have hlocks := B.notSynchronized
  have Z : CallFix p m c cX8_sees 4 s _ wsX8_sees RX8 := ⟨hx, hb, hml, hown, hts⟩
  have hS : va_S (AG G) s.heap s.heap [] := va_S.rf
  have inX8 : ∀ w ∈ u_ws RX8 TX8 7, w ∈ wsX8_sees := by decide +kernel
  have inX1 : ∀ w ∈ u_ws RX1 TX1 7, w ∈ wsX8_sees := by decide +kernel
  have w1 := hts (.fieldLink RX8 27 "AlmanacOfTheYearGone" "now" "LAlmanacOfTheYearGone$Year;") (by decide +kernel)
  have w2 := hts (.initialized RX7) (by decide +kernel)
  have w3n : va_Nw (.methodLinkNest "AlmanacOfTheYearGone" 78 ⟨"AlmanacOfTheYearGone$Year", "deedAt", "(I)LAlmanacOfTheYearGone$Deed;"⟩ "AlmanacOfTheYearGone") s := hK.2 _ (List.mem_of_getElem? (i := 52) rfl)
  have w3 := va_Nw.use (A := [.ref (gA G 0), .int x1, .int x2].toArray) rfl w3n
  have w4 := hts (.instanceMethod yX7_deedAt) (by decide +kernel)
  have w5 := hts (.selects RX7 yX7_deedAt yX7_deedAt) (by decide +kernel)
  have w6n : va_Nw (.fieldLinkNest "AlmanacOfTheYearGone" 91 "AlmanacOfTheYearGone$Deed" "who" "I" "AlmanacOfTheYearGone") s := hK.2 _ (List.mem_of_getElem? (i := 17) rfl)
  have w6 := va_Nw.use (A := [.ref (gA G 0), .int x1, .int x2].toArray) rfl w6n
  have w7 := hts (.initialized RX1) (by decide +kernel)
  have w8n : va_Nw (.methodLinkNest "AlmanacOfTheYearGone" 130 ⟨"AlmanacOfTheYearGone$Deed", "turnSeen", "(I)V"⟩ "AlmanacOfTheYearGone") s := hK.2 _ (List.mem_of_getElem? (i := 58) rfl)
  have w8 := va_Nw.use (A := [.ref (gA G 0), .int x1, .int x2].toArray) rfl w8n
  have w9 := hts (.instanceMethod yX1_turnSeen) (by decide +kernel)
  have w10 := hts (.selects RX1 yX1_turnSeen yX1_turnSeen) (by decide +kernel)
  have w11n : va_Nw (.fieldLinkNest "AlmanacOfTheYearGone" 94 "AlmanacOfTheYearGone$Deed" "seen" "I" "AlmanacOfTheYearGone") s := hK.2 _ (List.mem_of_getElem? (i := 21) rfl)
  have w11 := va_Nw.use (A := [.ref (gA G 0), .int x1, .int x2].toArray) rfl w11n
  have hl := lv_entry ([.ref (gA G 0), .int x1, .int x2]) (n := 4) (Nat.le_of_ble_eq_true rfl)
  rw [lg_entry_eq]
  generalize (lg_sl ([.ref (gA G 0), .int x1, .int x2]) ++ List.replicate (4 - (lg_sl ([.ref (gA G 0), .int x1, .int x2])).length) Slot.unset).toArray = ls at hl ⊢
  have hl : lv_has ls 4 [(0, .ref (gA G 0)), (1, .int x1), (2, .int x2)] := hl
  unfold f_X8_sees at hF
  refine lv_aload_n hx hb dX8_sees_0 rfl (lv_at hl 0 rfl) ?_
  refine va_get (ci := 4) (C := RX8) (T := TX8) (N := 7) (v := .ref (gA G 21)) hx hb hts inX8 hown hK.1 hP 0 (at_4 rfl) rfl 2 (by decide) w1 (fun _ h9 => h9) rfl dX8_sees_1 ?_
  refine lv_iload_n hx hb dX8_sees_4 rfl (lv_at hl 1 rfl) ?_
  obtain ⟨q1, h2, hF⟩ := ob_some hF
  refine k_VNv (As := [.int x1]) (rest := []) Z hK hP hS (t_X7_deedAt l G hG 21 x1 (rfl : kd 21 = 3) σ _ h2) ⟨va_cnB 1 hts gX8_sees_X7_deedAt_n78 rfl rfl rfl w3n w2 (by decide +kernel) ⟨Nat.le_of_ble_eq_true rfl, Nat.le_of_ble_eq_true rfl⟩, w4, w5⟩ (at_3 (rfl : kd 21 = 3)) rfl rfl hl.1 rfl (Nat.le_of_ble_eq_true rfl) ⟨Nat.zero_le _, Nat.zero_le _⟩ dX8_sees_5 (fun H locs hP hS => ?_)
  rcases q1 with _ | i3
  · have hF := oc_n hF
    refine W.eq (g2 := F0 m 8 ls [.null]) rfl ?_
    refine lv_astore_nN (lv' := [(3, .null), (0, .ref (gA G 0)), (1, .int x1), (2, .int x2)]) hx hb dX8_sees_8 rfl hl (by decide) rfl (fun ls hl => ?_)
    refine lv_aload_nN hx hb dX8_sees_9 rfl (lv_at hl 0 rfl) ?_
    refine lv_ifnullN (tgt := 21) hx hb dX8_sees_10 (by decide) ?_
    refine lv_iconst (v := -1) hx hb dX8_sees_21 (by decide) ?_
    exact e_iS hx hb hr hP hS hlocks dX8_sees_22 hF
  · have hF := oc_s hF
    have ki3 : kd i3 = 1 := q_X7_deedAt (rfl : kd 21 = 3) h2
    refine W.eq (g2 := F0 m 8 ls [.ref (gA G i3)]) rfl ?_
    refine lv_astore_n (lv' := [(3, .ref (gA G i3)), (0, .ref (gA G 0)), (1, .int x1), (2, .int x2)]) hx hb dX8_sees_8 rfl hl (by decide) rfl (fun ls hl => ?_)
    refine lv_aload_n hx hb dX8_sees_9 rfl (lv_at hl 0 rfl) ?_
    refine lv_ifnull hx hb dX8_sees_10 ?_
    refine lv_iload_n hx hb dX8_sees_13 rfl (lv_at hl 3 rfl) ?_
    refine lv_iconst (v := 5) hx hb dX8_sees_14 (by decide) ?_
    refine k_Sv (As := [.int x2, .int (5 : Int32)]) (rest := []) Z hK hP hS (t_X8_isBelow l G hG x2 (5 : Int32) σ) (va_cwS 2 hts gX8_sees_X8_isBelow rfl rfl rfl (by decide +kernel) ⟨Nat.le_of_ble_eq_true rfl, Nat.le_of_ble_eq_true rfl⟩) rfl hl.1 rfl (Nat.le_of_ble_eq_true rfl) ⟨Nat.zero_le _, Nat.zero_le _⟩ dX8_sees_15 (fun H locs hP hS => ?_)
    refine lv_if_ne (tgt := 23) hx hb dX8_sees_18 (by decide) (fun c4 => ?_) (fun c4 => ?_)
    · have hF := ite_t (b2i_n0 c4) hF
      refine lv_aload_n hx hb dX8_sees_23 rfl (lv_at hl 0 rfl) ?_
      refine va_getN (ci := 1) (C := RX1) (T := TX1) (N := 7) (v := .int (σ i3 3)) hx hb hts inX1 hown hK.1 hP i3 (at_1 ki3) rfl 3 (by decide) w6 (fun _ h9 => h9) rfl dX8_sees_24 ?_
      refine lv_iload_n hx hb dX8_sees_27 rfl (lv_at hl 3 rfl) ?_
      refine lv_icmp_ne (tgt := 34) hx hb dX8_sees_28 (by decide) (fun c5 => ?_) (fun c5 => ?_)
      · have hF := ite_f c5 hF
        refine lv_aload_n hx hb dX8_sees_34 rfl (lv_at hl 0 rfl) ?_
        refine lv_iload_n hx hb dX8_sees_35 rfl (lv_at hl 3 rfl) ?_
        obtain ⟨q6, h7, hF⟩ := ob_some hF
        refine k_VN0 (As := [.int x2]) (rest := []) Z hK hP hS (t_X1_turnSeen l G hG i3 x2 ki3 σ _ h7) ⟨va_cnB 1 hts gX8_sees_X1_turnSeen_n130 rfl rfl rfl w8n w7 (by decide +kernel) ⟨Nat.le_of_ble_eq_true rfl, Nat.le_of_ble_eq_true rfl⟩, w9, w10⟩ (at_1 ki3) rfl rfl hl.1 rfl (Nat.le_of_ble_eq_true rfl) ⟨Nat.zero_le _, Nat.zero_le _⟩ dX8_sees_36 (fun H locs hP hS => ?_)
        refine lv_aload_n hx hb dX8_sees_39 rfl (lv_at hl 0 rfl) ?_
        refine va_getN (ci := 1) (C := RX1) (T := TX1) (N := 7) (v := .int (q6 i3 4)) hx hb hts inX1 hown hK.1 hP i3 (at_1 ki3) rfl 4 (by decide) w11 (fun _ h9 => h9) rfl dX8_sees_40 ?_
        refine lv_iload_n hx hb dX8_sees_43 rfl (lv_at hl 3 rfl) ?_
        refine lv_ishr hx hb dX8_sees_44 ?_
        refine lv_iconst (v := 1) hx hb dX8_sees_45 (by decide) ?_
        refine lv_iand hx hb dX8_sees_46 ?_
        exact e_iS hx hb hr hP hS hlocks dX8_sees_47 hF
      · have hF := ite_t c5 hF
        refine lv_bipush (v := -3) hx hb dX8_sees_31 (by decide) ?_
        exact e_iS hx hb hr hP hS hlocks dX8_sees_33 hF
    · have hF := ite_f (b2i_e0 c4) hF
      refine lv_iconst (v := -1) hx hb dX8_sees_21 (by decide) ?_
      exact e_iS hx hb hr hP hS hlocks dX8_sees_22 hF
def f_X8_today (x1 : Int32) (σ : St) : Option (Int32 × St) := (if (f_X8_isWithin x1 (365 : Int32)) = true then (some (σ 21 3, up σ 21 3 x1)) else (some ((-1 : Int32), σ)))
set_option maxRecDepth 100000 in
set_option maxHeartbeats 4000000 in
theorem t_X8_today (l : Launch) (G : GT) (hG : Dw G) (x1 : Int32) (σ : St) (o : Int32 × St) (hF : f_X8_today x1 σ = some o) : Ct l G yX8_today wsX8_today 1 21 [.ref (gA G 0), .int x1] σ (some (.int o.1)) o.2 := by
  refine Met.ofW (cc := cX8_today) (maxL := 3) (ret := (some .int)) (by decide) rfl ?_
  intro p e s m args below meth c s₁ B hml hv
  obtain ⟨rfl, hP, hK⟩ := hv
  have hx := B.exec
  have hb := B.bytes
  have hr := B.returns
  have hts := atoms_spec (ws := wsX8_today) B.pre
  have hown : s.vm.findClass RX8 = some m.cls := findClass_of_methodNamed B.named
  have hlocks := B.notSynchronized
  have Z : CallFix p m c cX8_today 3 s _ wsX8_today RX8 := ⟨hx, hb, hml, hown, hts⟩
  have hS : va_S (AG G) s.heap s.heap [] := va_S.rf
  have inX8 : ∀ w ∈ u_ws RX8 TX8 7, w ∈ wsX8_today := by decide +kernel
  have inX7 : ∀ w ∈ u_ws RX7 TX7 4, w ∈ wsX8_today := by decide +kernel
  have w1 := hts (.fieldLink RX8 27 "AlmanacOfTheYearGone" "now" "LAlmanacOfTheYearGone$Year;") (by decide +kernel)
  have w2n : va_Nw (.fieldLinkNest "AlmanacOfTheYearGone" 134 "AlmanacOfTheYearGone$Year" "day" "I" "AlmanacOfTheYearGone") s := hK.2 _ (List.mem_of_getElem? (i := 27) rfl)
  have w2 := va_Nw.use (A := [.ref (gA G 0), .int x1].toArray) rfl w2n
  have hl := lv_entry ([.ref (gA G 0), .int x1]) (n := 3) (Nat.le_of_ble_eq_true rfl)
  rw [lg_entry_eq]
  generalize (lg_sl ([.ref (gA G 0), .int x1]) ++ List.replicate (3 - (lg_sl ([.ref (gA G 0), .int x1])).length) Slot.unset).toArray = ls at hl ⊢
  have hl : lv_has ls 3 [(0, .ref (gA G 0)), (1, .int x1)] := hl
  unfold f_X8_today at hF
  refine lv_iload_n hx hb dX8_today_0 rfl (lv_at hl 1 rfl) ?_
  refine lv_sipush (v := 365) hx hb dX8_today_1 (by decide) ?_
  refine k_Sv (As := [.int x1, .int (365 : Int32)]) (rest := []) Z hK hP hS (t_X8_isWithin l G hG x1 (365 : Int32) σ) (va_cwS 2 hts gX8_today_X8_isWithin rfl rfl rfl (by decide +kernel) ⟨Nat.le_of_ble_eq_true rfl, Nat.le_of_ble_eq_true rfl⟩) rfl hl.1 rfl (Nat.le_of_ble_eq_true rfl) ⟨Nat.zero_le _, Nat.zero_le _⟩ dX8_today_4 (fun H locs hP hS => ?_)
  refine lv_if_ne (tgt := 12) hx hb dX8_today_7 (by decide) (fun c1 => ?_) (fun c1 => ?_)
  · have hF := ite_t (b2i_n0 c1) hF
    refine lv_aload_n hx hb dX8_today_12 rfl (lv_at hl 0 rfl) ?_
    refine va_get (ci := 4) (C := RX8) (T := TX8) (N := 7) (v := .ref (gA G 21)) hx hb hts inX8 hown hK.1 hP 0 (at_4 rfl) rfl 2 (by decide) w1 (fun _ h9 => h9) rfl dX8_today_13 ?_
    refine va_getN (ci := 3) (C := RX7) (T := TX7) (N := 4) (v := .int (σ 21 3)) hx hb hts inX7 hown hK.1 hP 21 (at_3 (rfl : kd 21 = 3)) rfl 3 (by decide) w2 (fun _ h9 => h9) rfl dX8_today_16 ?_
    refine lv_istore_n (lv' := [(2, .int (σ 21 3)), (0, .ref (gA G 0)), (1, .int x1)]) hx hb dX8_today_19 rfl hl (by decide) rfl (fun ls hl => ?_)
    refine lv_aload_n hx hb dX8_today_20 rfl (lv_at hl 1 rfl) ?_
    refine va_get (ci := 4) (C := RX8) (T := TX8) (N := 7) (v := .ref (gA G 21)) hx hb hts inX8 hown hK.1 hP 0 (at_4 rfl) rfl 2 (by decide) w1 (fun _ h9 => h9) rfl dX8_today_21 ?_
    refine lv_iload_n hx hb dX8_today_24 rfl (lv_at hl 2 rfl) ?_
    refine va_putN (ci := 3) (C := RX7) (T := TX7) (N := 4) (v := .int x1) (ty := .int) hx hb hts inX7 tyX7 tyX7_ok nmX7 hown hK.1 hP (Dw.D hG) hS 21 (at_3 (rfl : kd 21 = 3)) rfl 3 (by decide) w2 (fun _ h9 => h9) rfl (by decide +kernel) rfl rfl (Nat.le_of_ble_eq_true rfl) dX8_today_25 (fun H locs hP _ hS => ?_)
    have hP := Pw.of hP (set_3_3 (rfl : kd 21 = 3))
    refine lv_iload_n hx hb dX8_today_28 rfl (lv_at hl 0 rfl) ?_
    exact e_iS hx hb hr hP hS hlocks dX8_today_29 hF
  · have hF := ite_f (b2i_e0 c1) hF
    refine lv_iconst (v := -1) hx hb dX8_today_10 (by decide) ?_
    exact e_iS hx hb hr hP hS hlocks dX8_today_11 hF
def f_X8_remembers (x1 : Int32) (x2 : Int32) (σ : St) : Option Int32 := (ob (f_X7_deedAt 21 x2 σ) (fun q1 => oc q1 ((some (-1 : Int32))) (fun i3 => (if (f_X8_isBelow x1 (5 : Int32)) = true then (if (f_X1_isKept i3 x1 (σ 21 3) σ) = true then (some (1 : Int32)) else (some (0 : Int32))) else (some (-1 : Int32))))))
set_option maxRecDepth 100000 in
set_option maxHeartbeats 4000000 in
theorem t_X8_remembers (l : Launch) (G : GT) (hG : Dw G) (x1 : Int32) (x2 : Int32) (σ : St) (o : Int32) (hF : f_X8_remembers x1 x2 σ = some o) : Ct l G yX8_remembers wsX8_remembers 2 43 [.ref (gA G 0), .int x1, .int x2] σ (some (.int o)) σ := by
  refine Met.ofW (cc := cX8_remembers) (maxL := 4) (ret := (some .int)) (by decide) rfl ?_
  intro p e s m args below meth c s₁ B hml hv
  obtain ⟨rfl, hP, hK⟩ := hv
  have hx := B.exec
  have hb := B.bytes
  have hr := B.returns
  have hts := atoms_spec (ws := wsX8_remembers) B.pre
  have hown : s.vm.findClass RX8 = some m.cls := findClass_of_methodNamed B.named
  have hlocks := B.notSynchronized
  have Z : CallFix p m c cX8_remembers 4 s _ wsX8_remembers RX8 := ⟨hx, hb, hml, hown, hts⟩
  have hS : va_S (AG G) s.heap s.heap [] := va_S.rf
  have inX8 : ∀ w ∈ u_ws RX8 TX8 7, w ∈ wsX8_remembers := by decide +kernel
  have inX7 : ∀ w ∈ u_ws RX7 TX7 4, w ∈ wsX8_remembers := by decide +kernel
  have w1 := hts (.fieldLink RX8 27 "AlmanacOfTheYearGone" "now" "LAlmanacOfTheYearGone$Year;") (by decide +kernel)
  have w2 := hts (.initialized RX7) (by decide +kernel)
  have w3n : va_Nw (.methodLinkNest "AlmanacOfTheYearGone" 78 ⟨"AlmanacOfTheYearGone$Year", "deedAt", "(I)LAlmanacOfTheYearGone$Deed;"⟩ "AlmanacOfTheYearGone") s := hK.2 _ (List.mem_of_getElem? (i := 52) rfl)
  have w3 := va_Nw.use (A := [.ref (gA G 0), .int x1, .int x2].toArray) rfl w3n
  have w4 := hts (.instanceMethod yX7_deedAt) (by decide +kernel)
  have w5 := hts (.selects RX7 yX7_deedAt yX7_deedAt) (by decide +kernel)
  have w6n : va_Nw (.fieldLinkNest "AlmanacOfTheYearGone" 134 "AlmanacOfTheYearGone$Year" "day" "I" "AlmanacOfTheYearGone") s := hK.2 _ (List.mem_of_getElem? (i := 27) rfl)
  have w6 := va_Nw.use (A := [.ref (gA G 0), .int x1, .int x2].toArray) rfl w6n
  have w7 := hts (.initialized RX1) (by decide +kernel)
  have w8n : va_Nw (.methodLinkNest "AlmanacOfTheYearGone" 135 ⟨"AlmanacOfTheYearGone$Deed", "isKept", "(II)Z"⟩ "AlmanacOfTheYearGone") s := hK.2 _ (List.mem_of_getElem? (i := 59) rfl)
  have w8 := va_Nw.use (A := [.ref (gA G 0), .int x1, .int x2].toArray) rfl w8n
  have w9 := hts (.instanceMethod yX1_isKept) (by decide +kernel)
  have w10 := hts (.selects RX1 yX1_isKept yX1_isKept) (by decide +kernel)
  have hl := lv_entry ([.ref (gA G 0), .int x1, .int x2]) (n := 4) (Nat.le_of_ble_eq_true rfl)
  rw [lg_entry_eq]
  generalize (lg_sl ([.ref (gA G 0), .int x1, .int x2]) ++ List.replicate (4 - (lg_sl ([.ref (gA G 0), .int x1, .int x2])).length) Slot.unset).toArray = ls at hl ⊢
  have hl : lv_has ls 4 [(0, .ref (gA G 0)), (1, .int x1), (2, .int x2)] := hl
  unfold f_X8_remembers at hF
  refine lv_aload_n hx hb dX8_remembers_0 rfl (lv_at hl 0 rfl) ?_
  refine va_get (ci := 4) (C := RX8) (T := TX8) (N := 7) (v := .ref (gA G 21)) hx hb hts inX8 hown hK.1 hP 0 (at_4 rfl) rfl 2 (by decide) w1 (fun _ h9 => h9) rfl dX8_remembers_1 ?_
  refine lv_iload_n hx hb dX8_remembers_4 rfl (lv_at hl 2 rfl) ?_
  obtain ⟨q1, h2, hF⟩ := ob_some hF
  refine k_VNv (As := [.int x2]) (rest := []) Z hK hP hS (t_X7_deedAt l G hG 21 x2 (rfl : kd 21 = 3) σ _ h2) ⟨va_cnB 1 hts gX8_remembers_X7_deedAt_n78 rfl rfl rfl w3n w2 (by decide +kernel) ⟨Nat.le_of_ble_eq_true rfl, Nat.le_of_ble_eq_true rfl⟩, w4, w5⟩ (at_3 (rfl : kd 21 = 3)) rfl rfl hl.1 rfl (Nat.le_of_ble_eq_true rfl) ⟨Nat.zero_le _, Nat.zero_le _⟩ dX8_remembers_5 (fun H locs hP hS => ?_)
  rcases q1 with _ | i3
  · have hF := oc_n hF
    refine W.eq (g2 := F0 m 8 ls [.null]) rfl ?_
    refine lv_astore_nN (lv' := [(3, .null), (0, .ref (gA G 0)), (1, .int x1), (2, .int x2)]) hx hb dX8_remembers_8 rfl hl (by decide) rfl (fun ls hl => ?_)
    refine lv_aload_nN hx hb dX8_remembers_9 rfl (lv_at hl 0 rfl) ?_
    refine lv_ifnullN (tgt := 21) hx hb dX8_remembers_10 (by decide) ?_
    refine lv_iconst (v := -1) hx hb dX8_remembers_21 (by decide) ?_
    exact e_iP hx hb hr hP hS hlocks dX8_remembers_22 hF
  · have hF := oc_s hF
    have ki3 : kd i3 = 1 := q_X7_deedAt (rfl : kd 21 = 3) h2
    refine W.eq (g2 := F0 m 8 ls [.ref (gA G i3)]) rfl ?_
    refine lv_astore_n (lv' := [(3, .ref (gA G i3)), (0, .ref (gA G 0)), (1, .int x1), (2, .int x2)]) hx hb dX8_remembers_8 rfl hl (by decide) rfl (fun ls hl => ?_)
    refine lv_aload_n hx hb dX8_remembers_9 rfl (lv_at hl 0 rfl) ?_
    refine lv_ifnull hx hb dX8_remembers_10 ?_
    refine lv_iload_n hx hb dX8_remembers_13 rfl (lv_at hl 2 rfl) ?_
    refine lv_iconst (v := 5) hx hb dX8_remembers_14 (by decide) ?_
    refine k_Sv (As := [.int x1, .int (5 : Int32)]) (rest := []) Z hK hP hS (t_X8_isBelow l G hG x1 (5 : Int32) σ) (va_cwS 2 hts gX8_remembers_X8_isBelow rfl rfl rfl (by decide +kernel) ⟨Nat.le_of_ble_eq_true rfl, Nat.le_of_ble_eq_true rfl⟩) rfl hl.1 rfl (Nat.le_of_ble_eq_true rfl) ⟨Nat.zero_le _, Nat.zero_le _⟩ dX8_remembers_15 (fun H locs hP hS => ?_)
    refine lv_if_ne (tgt := 23) hx hb dX8_remembers_18 (by decide) (fun c4 => ?_) (fun c4 => ?_)
    · have hF := ite_t (b2i_n0 c4) hF
      refine lv_aload_n hx hb dX8_remembers_23 rfl (lv_at hl 0 rfl) ?_
      refine lv_iload_n hx hb dX8_remembers_24 rfl (lv_at hl 2 rfl) ?_
      refine lv_aload_n hx hb dX8_remembers_25 rfl (lv_at hl 1 rfl) ?_
      refine va_get (ci := 4) (C := RX8) (T := TX8) (N := 7) (v := .ref (gA G 21)) hx hb hts inX8 hown hK.1 hP 0 (at_4 rfl) rfl 2 (by decide) w1 (fun _ h9 => h9) rfl dX8_remembers_26 ?_
      refine va_getN (ci := 3) (C := RX7) (T := TX7) (N := 4) (v := .int (σ 21 3)) hx hb hts inX7 hown hK.1 hP 21 (at_3 (rfl : kd 21 = 3)) rfl 3 (by decide) w6 (fun _ h9 => h9) rfl dX8_remembers_29 ?_
      refine k_VNv (As := [.int x1, .int (σ 21 3)]) (rest := []) Z hK hP hS (t_X1_isKept l G hG i3 x1 (σ 21 3) ki3 σ) ⟨va_cnB 2 hts gX8_remembers_X1_isKept_n135 rfl rfl rfl w8n w7 (by decide +kernel) ⟨Nat.le_of_ble_eq_true rfl, Nat.le_of_ble_eq_true rfl⟩, w9, w10⟩ (at_1 ki3) rfl rfl hl.1 rfl (Nat.le_of_ble_eq_true rfl) ⟨Nat.zero_le _, Nat.zero_le _⟩ dX8_remembers_32 (fun H locs hP hS => ?_)
      refine lv_if_eq (tgt := 42) hx hb dX8_remembers_35 (by decide) (fun c5 => ?_) (fun c5 => ?_)
      · have hF := ite_f (b2i_e0 c5) hF
        refine lv_iconst (v := 0) hx hb dX8_remembers_42 (by decide) ?_
        exact e_iP hx hb hr hP hS hlocks dX8_remembers_43 hF
      · have hF := ite_t (b2i_n0 c5) hF
        refine lv_iconst (v := 1) hx hb dX8_remembers_38 (by decide) ?_
        refine lv_goto (tgt := 43) hx hb dX8_remembers_39 (by decide) ?_
        exact e_iP hx hb hr hP hS hlocks dX8_remembers_43 hF
    · have hF := ite_f (b2i_e0 c4) hF
      refine lv_iconst (v := -1) hx hb dX8_remembers_21 (by decide) ?_
      exact e_iP hx hb hr hP hS hlocks dX8_remembers_22 hF
def f_X8_knows (x1 : Int32) (σ : St) : Option Int32 := (if (f_X8_isBelow x1 (5 : Int32)) = true then (ob (f_X7_memoryOf 21 x1 (σ 21 3) σ) (fun q2 => some q2)) else (some (-1 : Int32)))
set_option maxRecDepth 100000 in
set_option maxHeartbeats 4000000 in
theorem t_X8_knows (l : Launch) (G : GT) (hG : Dw G) (x1 : Int32) (σ : St) (o : Int32) (hF : f_X8_knows x1 σ = some o) : Ct l G yX8_knows wsX8_knows 3 68 [.ref (gA G 0), .int x1] σ (some (.int o)) σ := by
  refine Met.ofW (cc := cX8_knows) (maxL := 2) (ret := (some .int)) (by decide) rfl ?_
  intro p e s m args below meth c s₁ B hml hv
  obtain ⟨rfl, hP, hK⟩ := hv
  have hx := B.exec
  have hb := B.bytes
  have hr := B.returns
  have hts := atoms_spec (ws := wsX8_knows) B.pre
  have hown : s.vm.findClass RX8 = some m.cls := findClass_of_methodNamed B.named
  have hlocks := B.notSynchronized
  have Z : CallFix p m c cX8_knows 2 s _ wsX8_knows RX8 := ⟨hx, hb, hml, hown, hts⟩
  have hS : va_S (AG G) s.heap s.heap [] := va_S.rf
  have inX8 : ∀ w ∈ u_ws RX8 TX8 7, w ∈ wsX8_knows := by decide +kernel
  have inX7 : ∀ w ∈ u_ws RX7 TX7 4, w ∈ wsX8_knows := by decide +kernel
  have w1 := hts (.fieldLink RX8 27 "AlmanacOfTheYearGone" "now" "LAlmanacOfTheYearGone$Year;") (by decide +kernel)
  have w2n : va_Nw (.fieldLinkNest "AlmanacOfTheYearGone" 134 "AlmanacOfTheYearGone$Year" "day" "I" "AlmanacOfTheYearGone") s := hK.2 _ (List.mem_of_getElem? (i := 27) rfl)
  have w2 := va_Nw.use (A := [.ref (gA G 0), .int x1].toArray) rfl w2n
  have w3 := hts (.initialized RX7) (by decide +kernel)
  have w4n : va_Nw (.methodLinkNest "AlmanacOfTheYearGone" 138 ⟨"AlmanacOfTheYearGone$Year", "memoryOf", "(II)I"⟩ "AlmanacOfTheYearGone") s := hK.2 _ (List.mem_of_getElem? (i := 60) rfl)
  have w4 := va_Nw.use (A := [.ref (gA G 0), .int x1].toArray) rfl w4n
  have w5 := hts (.instanceMethod yX7_memoryOf) (by decide +kernel)
  have w6 := hts (.selects RX7 yX7_memoryOf yX7_memoryOf) (by decide +kernel)
  have hl := lv_entry ([.ref (gA G 0), .int x1]) (n := 2) (Nat.le_of_ble_eq_true rfl)
  rw [lg_entry_eq]
  generalize (lg_sl ([.ref (gA G 0), .int x1]) ++ List.replicate (2 - (lg_sl ([.ref (gA G 0), .int x1])).length) Slot.unset).toArray = ls at hl ⊢
  have hl : lv_has ls 2 [(0, .ref (gA G 0)), (1, .int x1)] := hl
  unfold f_X8_knows at hF
  refine lv_iload_n hx hb dX8_knows_0 rfl (lv_at hl 1 rfl) ?_
  refine lv_iconst (v := 5) hx hb dX8_knows_1 (by decide) ?_
  refine k_Sv (As := [.int x1, .int (5 : Int32)]) (rest := []) Z hK hP hS (t_X8_isBelow l G hG x1 (5 : Int32) σ) (va_cwS 2 hts gX8_knows_X8_isBelow rfl rfl rfl (by decide +kernel) ⟨Nat.le_of_ble_eq_true rfl, Nat.le_of_ble_eq_true rfl⟩) rfl hl.1 rfl (Nat.le_of_ble_eq_true rfl) ⟨Nat.zero_le _, Nat.zero_le _⟩ dX8_knows_2 (fun H locs hP hS => ?_)
  refine lv_if_eq (tgt := 26) hx hb dX8_knows_5 (by decide) (fun c1 => ?_) (fun c1 => ?_)
  · have hF := ite_f (b2i_e0 c1) hF
    refine lv_iconst (v := -1) hx hb dX8_knows_26 (by decide) ?_
    exact e_iP hx hb hr hP hS hlocks dX8_knows_27 hF
  · have hF := ite_t (b2i_n0 c1) hF
    refine lv_aload_n hx hb dX8_knows_8 rfl (lv_at hl 0 rfl) ?_
    refine va_get (ci := 4) (C := RX8) (T := TX8) (N := 7) (v := .ref (gA G 21)) hx hb hts inX8 hown hK.1 hP 0 (at_4 rfl) rfl 2 (by decide) w1 (fun _ h9 => h9) rfl dX8_knows_9 ?_
    refine lv_iload_n hx hb dX8_knows_12 rfl (lv_at hl 1 rfl) ?_
    refine lv_aload_n hx hb dX8_knows_13 rfl (lv_at hl 0 rfl) ?_
    refine va_get (ci := 4) (C := RX8) (T := TX8) (N := 7) (v := .ref (gA G 21)) hx hb hts inX8 hown hK.1 hP 0 (at_4 rfl) rfl 2 (by decide) w1 (fun _ h9 => h9) rfl dX8_knows_14 ?_
    refine va_getN (ci := 3) (C := RX7) (T := TX7) (N := 4) (v := .int (σ 21 3)) hx hb hts inX7 hown hK.1 hP 21 (at_3 (rfl : kd 21 = 3)) rfl 3 (by decide) w2 (fun _ h9 => h9) rfl dX8_knows_17 ?_
    obtain ⟨q2, h3, hF⟩ := ob_some hF
    refine k_VNv (As := [.int x1, .int (σ 21 3)]) (rest := []) Z hK hP hS (t_X7_memoryOf l G hG 21 x1 (σ 21 3) (rfl : kd 21 = 3) σ _ h3) ⟨va_cnB 2 hts gX8_knows_X7_memoryOf_n138 rfl rfl rfl w4n w3 (by decide +kernel) ⟨Nat.le_of_ble_eq_true rfl, Nat.le_of_ble_eq_true rfl⟩, w5, w6⟩ (at_3 (rfl : kd 21 = 3)) rfl rfl hl.1 rfl (Nat.le_of_ble_eq_true rfl) ⟨Nat.zero_le _, Nat.zero_le _⟩ dX8_knows_20 (fun H locs hP hS => ?_)
    refine lv_goto (tgt := 27) hx hb dX8_knows_23 (by decide) ?_
    exact e_iP hx hb hr hP hS hlocks dX8_knows_27 hF
def f_X8_forgotten (σ : St) : Option Int32 := (ob (f_X7_keptBySoMany 21 (0 : Int32) σ) (fun q1 => some q1))
set_option maxRecDepth 100000 in
set_option maxHeartbeats 4000000 in
theorem t_X8_forgotten (l : Launch) (G : GT) (hG : Dw G) (σ : St) (o : Int32) (hF : f_X8_forgotten σ = some o) : Ct l G yX8_forgotten wsX8_forgotten 3 67 [.ref (gA G 0)] σ (some (.int o)) σ := by
  refine Met.ofW (cc := cX8_forgotten) (maxL := 1) (ret := (some .int)) (by decide) rfl ?_
  intro p e s m args below meth c s₁ B hml hv
  obtain ⟨rfl, hP, hK⟩ := hv
  have hx := B.exec
  have hb := B.bytes
  have hr := B.returns
  have hts := atoms_spec (ws := wsX8_forgotten) B.pre
  have hown : s.vm.findClass RX8 = some m.cls := findClass_of_methodNamed B.named
  have hlocks := B.notSynchronized
  have Z : CallFix p m c cX8_forgotten 1 s _ wsX8_forgotten RX8 := ⟨hx, hb, hml, hown, hts⟩
  have hS : va_S (AG G) s.heap s.heap [] := va_S.rf
  have inX8 : ∀ w ∈ u_ws RX8 TX8 7, w ∈ wsX8_forgotten := by decide +kernel
  have w1 := hts (.fieldLink RX8 27 "AlmanacOfTheYearGone" "now" "LAlmanacOfTheYearGone$Year;") (by decide +kernel)
  have w2 := hts (.initialized RX7) (by decide +kernel)
  have w3n : va_Nw (.methodLinkNest "AlmanacOfTheYearGone" 142 ⟨"AlmanacOfTheYearGone$Year", "keptBySoMany", "(I)I"⟩ "AlmanacOfTheYearGone") s := hK.2 _ (List.mem_of_getElem? (i := 62) rfl)
  have w3 := va_Nw.use (A := [.ref (gA G 0)].toArray) rfl w3n
  have w4 := hts (.instanceMethod yX7_keptBySoMany) (by decide +kernel)
  have w5 := hts (.selects RX7 yX7_keptBySoMany yX7_keptBySoMany) (by decide +kernel)
  have hl := lv_entry ([.ref (gA G 0)]) (n := 1) (Nat.le_of_ble_eq_true rfl)
  rw [lg_entry_eq]
  generalize (lg_sl ([.ref (gA G 0)]) ++ List.replicate (1 - (lg_sl ([.ref (gA G 0)])).length) Slot.unset).toArray = ls at hl ⊢
  have hl : lv_has ls 1 [(0, .ref (gA G 0))] := hl
  unfold f_X8_forgotten at hF
  refine lv_aload_n hx hb dX8_forgotten_0 rfl (lv_at hl 0 rfl) ?_
  refine va_get (ci := 4) (C := RX8) (T := TX8) (N := 7) (v := .ref (gA G 21)) hx hb hts inX8 hown hK.1 hP 0 (at_4 rfl) rfl 2 (by decide) w1 (fun _ h9 => h9) rfl dX8_forgotten_1 ?_
  refine lv_iconst (v := 0) hx hb dX8_forgotten_4 (by decide) ?_
  obtain ⟨q1, h2, hF⟩ := ob_some hF
  refine k_VNv (As := [.int (0 : Int32)]) (rest := []) Z hK hP hS (t_X7_keptBySoMany l G hG 21 (0 : Int32) (rfl : kd 21 = 3) σ _ h2) ⟨va_cnB 1 hts gX8_forgotten_X7_keptBySoMany_n142 rfl rfl rfl w3n w2 (by decide +kernel) ⟨Nat.le_of_ble_eq_true rfl, Nat.le_of_ble_eq_true rfl⟩, w4, w5⟩ (at_3 (rfl : kd 21 = 3)) rfl rfl hl.1 rfl (Nat.le_of_ble_eq_true rfl) ⟨Nat.zero_le _, Nat.zero_le _⟩ dX8_forgotten_5 (fun H locs hP hS => ?_)
  exact e_iP hx hb hr hP hS hlocks dX8_forgotten_8 hF
def f_X8_forgets (x1 : Int32) (x2 : Int32) (σ : St) : Option Int32 := (ob (f_X7_deedAt 21 x2 σ) (fun q1 => oc q1 ((some (-1 : Int32))) (fun i3 => (if (f_X8_isBelow x1 (5 : Int32)) = true then (if (f_X1_isKept i3 x1 (σ 21 3) σ) = true then (if (365 : Int32) < (((σ i3 2) + (f_X1_lastingFor i3 x1 σ)) + (1 : Int32)) then (some (-4 : Int32)) else (some (((σ i3 2) + (f_X1_lastingFor i3 x1 σ)) + (1 : Int32)))) else (some (-3 : Int32))) else (some (-1 : Int32))))))
set_option maxRecDepth 100000 in
set_option maxHeartbeats 4000000 in
theorem t_X8_forgets (l : Launch) (G : GT) (hG : Dw G) (x1 : Int32) (x2 : Int32) (σ : St) (o : Int32) (hF : f_X8_forgets x1 x2 σ = some o) : Ct l G yX8_forgets wsX8_forgets 2 43 [.ref (gA G 0), .int x1, .int x2] σ (some (.int o)) σ := by
  refine Met.ofW (cc := cX8_forgets) (maxL := 5) (ret := (some .int)) (by decide) rfl ?_
  intro p e s m args below meth c s₁ B hml hv
  obtain ⟨rfl, hP, hK⟩ := hv
  have hx := B.exec
  have hb := B.bytes
  have hr := B.returns
  have hts := atoms_spec (ws := wsX8_forgets) B.pre
  have hown : s.vm.findClass RX8 = some m.cls := findClass_of_methodNamed B.named
  have hlocks := B.notSynchronized
  have Z : CallFix p m c cX8_forgets 5 s _ wsX8_forgets RX8 := ⟨hx, hb, hml, hown, hts⟩
  have hS : va_S (AG G) s.heap s.heap [] := va_S.rf
  have inX8 : ∀ w ∈ u_ws RX8 TX8 7, w ∈ wsX8_forgets := by decide +kernel
  have inX7 : ∀ w ∈ u_ws RX7 TX7 4, w ∈ wsX8_forgets := by decide +kernel
  have inX1 : ∀ w ∈ u_ws RX1 TX1 7, w ∈ wsX8_forgets := by decide +kernel
  have w1 := hts (.fieldLink RX8 27 "AlmanacOfTheYearGone" "now" "LAlmanacOfTheYearGone$Year;") (by decide +kernel)
  have w2 := hts (.initialized RX7) (by decide +kernel)
  have w3n : va_Nw (.methodLinkNest "AlmanacOfTheYearGone" 78 ⟨"AlmanacOfTheYearGone$Year", "deedAt", "(I)LAlmanacOfTheYearGone$Deed;"⟩ "AlmanacOfTheYearGone") s := hK.2 _ (List.mem_of_getElem? (i := 52) rfl)
  have w3 := va_Nw.use (A := [.ref (gA G 0), .int x1, .int x2].toArray) rfl w3n
  have w4 := hts (.instanceMethod yX7_deedAt) (by decide +kernel)
  have w5 := hts (.selects RX7 yX7_deedAt yX7_deedAt) (by decide +kernel)
  have w6n : va_Nw (.fieldLinkNest "AlmanacOfTheYearGone" 134 "AlmanacOfTheYearGone$Year" "day" "I" "AlmanacOfTheYearGone") s := hK.2 _ (List.mem_of_getElem? (i := 27) rfl)
  have w6 := va_Nw.use (A := [.ref (gA G 0), .int x1, .int x2].toArray) rfl w6n
  have w7 := hts (.initialized RX1) (by decide +kernel)
  have w8n : va_Nw (.methodLinkNest "AlmanacOfTheYearGone" 135 ⟨"AlmanacOfTheYearGone$Deed", "isKept", "(II)Z"⟩ "AlmanacOfTheYearGone") s := hK.2 _ (List.mem_of_getElem? (i := 59) rfl)
  have w8 := va_Nw.use (A := [.ref (gA G 0), .int x1, .int x2].toArray) rfl w8n
  have w9 := hts (.instanceMethod yX1_isKept) (by decide +kernel)
  have w10 := hts (.selects RX1 yX1_isKept yX1_isKept) (by decide +kernel)
  have w11n : va_Nw (.fieldLinkNest "AlmanacOfTheYearGone" 88 "AlmanacOfTheYearGone$Deed" "day" "I" "AlmanacOfTheYearGone") s := hK.2 _ (List.mem_of_getElem? (i := 13) rfl)
  have w11 := va_Nw.use (A := [.ref (gA G 0), .int x1, .int x2].toArray) rfl w11n
  have w12n : va_Nw (.methodLinkNest "AlmanacOfTheYearGone" 146 ⟨"AlmanacOfTheYearGone$Deed", "lastingFor", "(I)I"⟩ "AlmanacOfTheYearGone") s := hK.2 _ (List.mem_of_getElem? (i := 64) rfl)
  have w12 := va_Nw.use (A := [.ref (gA G 0), .int x1, .int x2].toArray) rfl w12n
  have w13 := hts (.instanceMethod yX1_lastingFor) (by decide +kernel)
  have w14 := hts (.selects RX1 yX1_lastingFor yX1_lastingFor) (by decide +kernel)
  have hl := lv_entry ([.ref (gA G 0), .int x1, .int x2]) (n := 5) (Nat.le_of_ble_eq_true rfl)
  rw [lg_entry_eq]
  generalize (lg_sl ([.ref (gA G 0), .int x1, .int x2]) ++ List.replicate (5 - (lg_sl ([.ref (gA G 0), .int x1, .int x2])).length) Slot.unset).toArray = ls at hl ⊢
  have hl : lv_has ls 5 [(0, .ref (gA G 0)), (1, .int x1), (2, .int x2)] := hl
  unfold f_X8_forgets at hF
  refine lv_aload_n hx hb dX8_forgets_0 rfl (lv_at hl 0 rfl) ?_
  refine va_get (ci := 4) (C := RX8) (T := TX8) (N := 7) (v := .ref (gA G 21)) hx hb hts inX8 hown hK.1 hP 0 (at_4 rfl) rfl 2 (by decide) w1 (fun _ h9 => h9) rfl dX8_forgets_1 ?_
  refine lv_iload_n hx hb dX8_forgets_4 rfl (lv_at hl 2 rfl) ?_
  obtain ⟨q1, h2, hF⟩ := ob_some hF
  refine k_VNv (As := [.int x2]) (rest := []) Z hK hP hS (t_X7_deedAt l G hG 21 x2 (rfl : kd 21 = 3) σ _ h2) ⟨va_cnB 1 hts gX8_forgets_X7_deedAt_n78 rfl rfl rfl w3n w2 (by decide +kernel) ⟨Nat.le_of_ble_eq_true rfl, Nat.le_of_ble_eq_true rfl⟩, w4, w5⟩ (at_3 (rfl : kd 21 = 3)) rfl rfl hl.1 rfl (Nat.le_of_ble_eq_true rfl) ⟨Nat.zero_le _, Nat.zero_le _⟩ dX8_forgets_5 (fun H locs hP hS => ?_)
  rcases q1 with _ | i3
  · have hF := oc_n hF
    refine W.eq (g2 := F0 m 8 ls [.null]) rfl ?_
    refine lv_astore_nN (lv' := [(3, .null), (0, .ref (gA G 0)), (1, .int x1), (2, .int x2)]) hx hb dX8_forgets_8 rfl hl (by decide) rfl (fun ls hl => ?_)
    refine lv_aload_nN hx hb dX8_forgets_9 rfl (lv_at hl 0 rfl) ?_
    refine lv_ifnullN (tgt := 21) hx hb dX8_forgets_10 (by decide) ?_
    refine lv_iconst (v := -1) hx hb dX8_forgets_21 (by decide) ?_
    exact e_iP hx hb hr hP hS hlocks dX8_forgets_22 hF
  · have hF := oc_s hF
    have ki3 : kd i3 = 1 := q_X7_deedAt (rfl : kd 21 = 3) h2
    refine W.eq (g2 := F0 m 8 ls [.ref (gA G i3)]) rfl ?_
    refine lv_astore_n (lv' := [(3, .ref (gA G i3)), (0, .ref (gA G 0)), (1, .int x1), (2, .int x2)]) hx hb dX8_forgets_8 rfl hl (by decide) rfl (fun ls hl => ?_)
    refine lv_aload_n hx hb dX8_forgets_9 rfl (lv_at hl 0 rfl) ?_
    refine lv_ifnull hx hb dX8_forgets_10 ?_
    refine lv_iload_n hx hb dX8_forgets_13 rfl (lv_at hl 2 rfl) ?_
    refine lv_iconst (v := 5) hx hb dX8_forgets_14 (by decide) ?_
    refine k_Sv (As := [.int x1, .int (5 : Int32)]) (rest := []) Z hK hP hS (t_X8_isBelow l G hG x1 (5 : Int32) σ) (va_cwS 2 hts gX8_forgets_X8_isBelow rfl rfl rfl (by decide +kernel) ⟨Nat.le_of_ble_eq_true rfl, Nat.le_of_ble_eq_true rfl⟩) rfl hl.1 rfl (Nat.le_of_ble_eq_true rfl) ⟨Nat.zero_le _, Nat.zero_le _⟩ dX8_forgets_15 (fun H locs hP hS => ?_)
    refine lv_if_ne (tgt := 23) hx hb dX8_forgets_18 (by decide) (fun c4 => ?_) (fun c4 => ?_)
    · have hF := ite_t (b2i_n0 c4) hF
      refine lv_aload_n hx hb dX8_forgets_23 rfl (lv_at hl 0 rfl) ?_
      refine lv_iload_n hx hb dX8_forgets_24 rfl (lv_at hl 2 rfl) ?_
      refine lv_aload_n hx hb dX8_forgets_25 rfl (lv_at hl 1 rfl) ?_
      refine va_get (ci := 4) (C := RX8) (T := TX8) (N := 7) (v := .ref (gA G 21)) hx hb hts inX8 hown hK.1 hP 0 (at_4 rfl) rfl 2 (by decide) w1 (fun _ h9 => h9) rfl dX8_forgets_26 ?_
      refine va_getN (ci := 3) (C := RX7) (T := TX7) (N := 4) (v := .int (σ 21 3)) hx hb hts inX7 hown hK.1 hP 21 (at_3 (rfl : kd 21 = 3)) rfl 3 (by decide) w6 (fun _ h9 => h9) rfl dX8_forgets_29 ?_
      refine k_VNv (As := [.int x1, .int (σ 21 3)]) (rest := []) Z hK hP hS (t_X1_isKept l G hG i3 x1 (σ 21 3) ki3 σ) ⟨va_cnB 2 hts gX8_forgets_X1_isKept_n135 rfl rfl rfl w8n w7 (by decide +kernel) ⟨Nat.le_of_ble_eq_true rfl, Nat.le_of_ble_eq_true rfl⟩, w9, w10⟩ (at_1 ki3) rfl rfl hl.1 rfl (Nat.le_of_ble_eq_true rfl) ⟨Nat.zero_le _, Nat.zero_le _⟩ dX8_forgets_32 (fun H locs hP hS => ?_)
      refine lv_if_ne (tgt := 41) hx hb dX8_forgets_35 (by decide) (fun c5 => ?_) (fun c5 => ?_)
      · have hF := ite_t (b2i_n0 c5) hF
        refine lv_aload_n hx hb dX8_forgets_41 rfl (lv_at hl 0 rfl) ?_
        refine va_getN (ci := 1) (C := RX1) (T := TX1) (N := 7) (v := .int (σ i3 2)) hx hb hts inX1 hown hK.1 hP i3 (at_1 ki3) rfl 2 (by decide) w11 (fun _ h9 => h9) rfl dX8_forgets_42 ?_
        refine lv_aload_n hx hb dX8_forgets_45 rfl (lv_at hl 0 rfl) ?_
        refine lv_iload_n hx hb dX8_forgets_46 rfl (lv_at hl 2 rfl) ?_
        refine k_VNv (As := [.int x1]) (rest := [.int (σ i3 2)]) Z hK hP hS (t_X1_lastingFor l G hG i3 x1 ki3 σ) ⟨va_cnB 1 hts gX8_forgets_X1_lastingFor_n146 rfl rfl rfl w12n w7 (by decide +kernel) ⟨Nat.le_of_ble_eq_true rfl, Nat.le_of_ble_eq_true rfl⟩, w13, w14⟩ (at_1 ki3) rfl rfl hl.1 rfl (Nat.le_of_ble_eq_true rfl) ⟨Nat.zero_le _, Nat.zero_le _⟩ dX8_forgets_47 (fun H locs hP hS => ?_)
        refine lv_iadd hx hb dX8_forgets_50 ?_
        refine lv_iconst (v := 1) hx hb dX8_forgets_51 (by decide) ?_
        refine lv_iadd hx hb dX8_forgets_52 ?_
        refine lv_istore (lv' := [(4, .int (((σ i3 2) + (f_X1_lastingFor i3 x1 σ)) + (1 : Int32))), (3, .ref (gA G i3)), (0, .ref (gA G 0)), (1, .int x1), (2, .int x2)]) hx hb dX8_forgets_53 hl (by decide) rfl (fun ls hl => ?_)
        refine lv_iload hx hb dX8_forgets_55 (lv_at hl 0 rfl) ?_
        refine lv_sipush (v := 365) hx hb dX8_forgets_57 (by decide) ?_
        refine lv_icmp_gt (tgt := 68) hx hb dX8_forgets_60 (by decide) (fun c6 => ?_) (fun c6 => ?_)
        · have hF := ite_t c6 hF
          refine lv_bipush (v := -4) hx hb dX8_forgets_68 (by decide) ?_
          exact e_iP hx hb hr hP hS hlocks dX8_forgets_70 hF
        · have hF := ite_f c6 hF
          refine lv_iload hx hb dX8_forgets_63 (lv_at hl 0 rfl) ?_
          refine lv_goto (tgt := 70) hx hb dX8_forgets_65 (by decide) ?_
          exact e_iP hx hb hr hP hS hlocks dX8_forgets_70 hF
      · have hF := ite_f (b2i_e0 c5) hF
        refine lv_bipush (v := -3) hx hb dX8_forgets_38 (by decide) ?_
        exact e_iP hx hb hr hP hS hlocks dX8_forgets_40 hF
    · have hF := ite_f (b2i_e0 c4) hF
      refine lv_iconst (v := -1) hx hb dX8_forgets_21 (by decide) ?_
      exact e_iP hx hb hr hP hS hlocks dX8_forgets_22 hF
def f_X8_only (σ : St) : Option Int32 := (ob (f_X7_keptBySoMany 21 (1 : Int32) σ) (fun q1 => some q1))
set_option maxRecDepth 100000 in
set_option maxHeartbeats 4000000 in
theorem t_X8_only (l : Launch) (G : GT) (hG : Dw G) (σ : St) (o : Int32) (hF : f_X8_only σ = some o) : Ct l G yX8_only wsX8_only 3 67 [.ref (gA G 0)] σ (some (.int o)) σ := by
  refine Met.ofW (cc := cX8_only) (maxL := 1) (ret := (some .int)) (by decide) rfl ?_
  intro p e s m args below meth c s₁ B hml hv
  obtain ⟨rfl, hP, hK⟩ := hv
  have hx := B.exec
  have hb := B.bytes
  have hr := B.returns
  have hts := atoms_spec (ws := wsX8_only) B.pre
  have hown : s.vm.findClass RX8 = some m.cls := findClass_of_methodNamed B.named
  have hlocks := B.notSynchronized
  have Z : CallFix p m c cX8_only 1 s _ wsX8_only RX8 := ⟨hx, hb, hml, hown, hts⟩
  have hS : va_S (AG G) s.heap s.heap [] := va_S.rf
  have inX8 : ∀ w ∈ u_ws RX8 TX8 7, w ∈ wsX8_only := by decide +kernel
  have w1 := hts (.fieldLink RX8 27 "AlmanacOfTheYearGone" "now" "LAlmanacOfTheYearGone$Year;") (by decide +kernel)
  have w2 := hts (.initialized RX7) (by decide +kernel)
  have w3n : va_Nw (.methodLinkNest "AlmanacOfTheYearGone" 142 ⟨"AlmanacOfTheYearGone$Year", "keptBySoMany", "(I)I"⟩ "AlmanacOfTheYearGone") s := hK.2 _ (List.mem_of_getElem? (i := 62) rfl)
  have w3 := va_Nw.use (A := [.ref (gA G 0)].toArray) rfl w3n
  have w4 := hts (.instanceMethod yX7_keptBySoMany) (by decide +kernel)
  have w5 := hts (.selects RX7 yX7_keptBySoMany yX7_keptBySoMany) (by decide +kernel)
  have hl := lv_entry ([.ref (gA G 0)]) (n := 1) (Nat.le_of_ble_eq_true rfl)
  rw [lg_entry_eq]
  generalize (lg_sl ([.ref (gA G 0)]) ++ List.replicate (1 - (lg_sl ([.ref (gA G 0)])).length) Slot.unset).toArray = ls at hl ⊢
  have hl : lv_has ls 1 [(0, .ref (gA G 0))] := hl
  unfold f_X8_only at hF
  refine lv_aload_n hx hb dX8_only_0 rfl (lv_at hl 0 rfl) ?_
  refine va_get (ci := 4) (C := RX8) (T := TX8) (N := 7) (v := .ref (gA G 21)) hx hb hts inX8 hown hK.1 hP 0 (at_4 rfl) rfl 2 (by decide) w1 (fun _ h9 => h9) rfl dX8_only_1 ?_
  refine lv_iconst (v := 1) hx hb dX8_only_4 (by decide) ?_
  obtain ⟨q1, h2, hF⟩ := ob_some hF
  refine k_VNv (As := [.int (1 : Int32)]) (rest := []) Z hK hP hS (t_X7_keptBySoMany l G hG 21 (1 : Int32) (rfl : kd 21 = 3) σ _ h2) ⟨va_cnB 1 hts gX8_only_X7_keptBySoMany_n142 rfl rfl rfl w3n w2 (by decide +kernel) ⟨Nat.le_of_ble_eq_true rfl, Nat.le_of_ble_eq_true rfl⟩, w4, w5⟩ (at_3 (rfl : kd 21 = 3)) rfl rfl hl.1 rfl (Nat.le_of_ble_eq_true rfl) ⟨Nat.zero_le _, Nat.zero_le _⟩ dX8_only_5 (fun H locs hP hS => ?_)
  exact e_iP hx hb hr hP hS hlocks dX8_only_8 hF
def f_X8_witnesses_58 (σ : St) (rec15 : Int32 → Int32 → Int32 → Option Int32) (v1 : Int32) (v2 : Int32) (v3 : Int32) : Option Int32 := (rec15 v1 v2 (v3 + (1 : Int32)))
theorem f_X8_witnesses_58_e {σ : St} {rec15 : Int32 → Int32 → Int32 → Option Int32} {v1 : Int32} {v2 : Int32} {v3 : Int32} : f_X8_witnesses_58 σ rec15 v1 v2 v3 = (rec15 v1 v2 (v3 + (1 : Int32))) := rfl
def f_X8_witnesses_37 (σ : St) (rec15 : Int32 → Int32 → Int32 → Option Int32) (v1 : Int32) (v2 : Int32) (v3 : Int32) (z0 : Int32) : Option Int32 := (if z0 = 0 then f_X8_witnesses_58 σ rec15 v1 v2 v3 else (ob (f_X7_memoryOfGroup 21 v3 σ) (fun q5 => if q5 = v1 then (f_X8_witnesses_58 σ rec15 v1 v3 v3) else f_X8_witnesses_58 σ rec15 v1 v2 v3)))
theorem f_X8_witnesses_37_e {σ : St} {rec15 : Int32 → Int32 → Int32 → Option Int32} {v1 : Int32} {v2 : Int32} {v3 : Int32} {z0 : Int32} : f_X8_witnesses_37 σ rec15 v1 v2 v3 z0 = (if z0 = 0 then f_X8_witnesses_58 σ rec15 v1 v2 v3 else (ob (f_X7_memoryOfGroup 21 v3 σ) (fun q5 => if q5 = v1 then (f_X8_witnesses_58 σ rec15 v1 v3 v3) else f_X8_witnesses_58 σ rec15 v1 v2 v3))) := rfl
def f_X8_witnesses_15 (σ : St) : Nat → (Int32 → Int32 → Int32 → Option Int32)
  | 0 => fun _ _ _ => none
  | fl + 1 => fun v1 v2 v3 => (if (31 : Int32) ≤ v3 then (some v2) else (if (f_J6_bitCount_0f7a4 v2) ≤ (f_J6_bitCount_0f7a4 v3) then (f_X8_witnesses_37 σ (f_X8_witnesses_15 σ fl) v1 v2 v3 (0 : Int32)) else (f_X8_witnesses_37 σ (f_X8_witnesses_15 σ fl) v1 v2 v3 (1 : Int32))))
theorem f_X8_witnesses_15_s {σ : St} (fl : Nat) {v1 : Int32} {v2 : Int32} {v3 : Int32} : f_X8_witnesses_15 σ (fl + 1) v1 v2 v3 = (if (31 : Int32) ≤ v3 then (some v2) else (if (f_J6_bitCount_0f7a4 v2) ≤ (f_J6_bitCount_0f7a4 v3) then (f_X8_witnesses_37 σ (f_X8_witnesses_15 σ fl) v1 v2 v3 (0 : Int32)) else (f_X8_witnesses_37 σ (f_X8_witnesses_15 σ fl) v1 v2 v3 (1 : Int32)))) := rfl
def f_X8_witnesses (σ : St) : Option Int32 := (ob (f_X7_memoryOfGroup 21 (31 : Int32) σ) (fun q1 => f_X8_witnesses_15 σ fu q1 (31 : Int32) (0 : Int32)))
set_option maxRecDepth 100000 in
set_option maxHeartbeats 4000000 in
theorem t_X8_witnesses (l : Launch) (G : GT) (hG : Dw G) (σ : St) (o : Int32) (hF : f_X8_witnesses σ = some o) : Ct l G yX8_witnesses wsX8_witnesses 3 67 [.ref (gA G 0)] σ (some (.int o)) σ := by
  refine Met.ofW (cc := cX8_witnesses) (maxL := 5) (ret := (some .int)) (by decide) rfl ?_
  intro p e s m args below meth c s₁ B hml hv
  obtain ⟨rfl, hP, hK⟩ := hv
  have hx := B.exec
  have hb := B.bytes
  have hr := B.returns
  have hts := atoms_spec (ws := wsX8_witnesses) B.pre
  have hown : s.vm.findClass RX8 = some m.cls := findClass_of_methodNamed B.named
  have hlocks := B.notSynchronized
  have Z : CallFix p m c cX8_witnesses 5 s _ wsX8_witnesses RX8 := ⟨hx, hb, hml, hown, hts⟩
  have hS : va_S (AG G) s.heap s.heap [] := va_S.rf
  have inX8 : ∀ w ∈ u_ws RX8 TX8 7, w ∈ wsX8_witnesses := by decide +kernel
  have w1 := hts (.fieldLink RX8 27 "AlmanacOfTheYearGone" "now" "LAlmanacOfTheYearGone$Year;") (by decide +kernel)
  have w2 := hts (.initialized RX7) (by decide +kernel)
  have w3n : va_Nw (.methodLinkNest "AlmanacOfTheYearGone" 149 ⟨"AlmanacOfTheYearGone$Year", "memoryOfGroup", "(I)I"⟩ "AlmanacOfTheYearGone") s := hK.2 _ (List.mem_of_getElem? (i := 65) rfl)
  have w3 := va_Nw.use (A := [.ref (gA G 0)].toArray) rfl w3n
  have w4 := hts (.instanceMethod yX7_memoryOfGroup) (by decide +kernel)
  have w5 := hts (.selects RX7 yX7_memoryOfGroup yX7_memoryOfGroup) (by decide +kernel)
  have hl := lv_entry ([.ref (gA G 0)]) (n := 5) (Nat.le_of_ble_eq_true rfl)
  rw [lg_entry_eq]
  generalize (lg_sl ([.ref (gA G 0)]) ++ List.replicate (5 - (lg_sl ([.ref (gA G 0)])).length) Slot.unset).toArray = ls at hl ⊢
  have hl : lv_has ls 5 [(0, .ref (gA G 0))] := hl
  unfold f_X8_witnesses at hF
  refine lv_aload_n hx hb dX8_witnesses_0 rfl (lv_at hl 0 rfl) ?_
  refine va_get (ci := 4) (C := RX8) (T := TX8) (N := 7) (v := .ref (gA G 21)) hx hb hts inX8 hown hK.1 hP 0 (at_4 rfl) rfl 2 (by decide) w1 (fun _ h9 => h9) rfl dX8_witnesses_1 ?_
  refine lv_bipush (v := 31) hx hb dX8_witnesses_4 (by decide) ?_
  obtain ⟨q1, h2, hF⟩ := ob_some hF
  refine k_VNv (As := [.int (31 : Int32)]) (rest := []) Z hK hP hS (t_X7_memoryOfGroup l G hG 21 (31 : Int32) (rfl : kd 21 = 3) σ _ h2) ⟨va_cnB 1 hts gX8_witnesses_X7_memoryOfGroup_n149 rfl rfl rfl w3n w2 (by decide +kernel) ⟨Nat.le_of_ble_eq_true rfl, Nat.le_of_ble_eq_true rfl⟩, w4, w5⟩ (at_3 (rfl : kd 21 = 3)) rfl rfl hl.1 rfl (Nat.le_of_ble_eq_true rfl) ⟨Nat.zero_le _, Nat.zero_le _⟩ dX8_witnesses_6 (fun H locs hP hS => ?_)
  refine lv_istore_n (lv' := [(1, .int q1), (0, .ref (gA G 0))]) hx hb dX8_witnesses_9 rfl hl (by decide) rfl (fun ls hl => ?_)
  refine lv_bipush (v := 31) hx hb dX8_witnesses_10 (by decide) ?_
  refine lv_istore_n (lv' := [(2, .int (31 : Int32)), (1, .int q1), (0, .ref (gA G 0))]) hx hb dX8_witnesses_12 rfl hl (by decide) rfl (fun ls hl => ?_)
  refine lv_iconst (v := 0) hx hb dX8_witnesses_13 (by decide) ?_
  have J15 : ∀ (fl : Nat) (v1 : Int32) (v2 : Int32) (v3 : Int32) (H : Heap) (locs : List Loc) (hP : Pw G σ H) (hS : va_S (AG G) s.heap H locs) (ls : Array Slot) (hl : lv_has ls 5 [(0, .ref (gA G 0)), (1, .int v1), (2, .int v2), (3, .int v3)]) (hF : f_X8_witnesses_15 σ fl v1 v2 v3 = some o), W p l e (headSpec wsX8_witnesses ({ frames := 3, cells := 0, slots := 0, locals := 67 })).room s m ([.ref (gA G 0)] : List Value).toArray below meth c H locs 0 0 (MQ below (qR G (some (.int o)) σ) ([.ref (gA G 0)] : List Value).toArray s 0 0 (AG G)) (F0 m 15 ls []) := by
    intro fl15
    induction fl15 with
    | zero => intro v1 v2 v3 H locs hP hS ls hl hF; cases hF
    | succ fl15 ih15 =>
      intro v1 v2 v3 H locs hP hS ls hl hF
      rw [f_X8_witnesses_15_s] at hF
      refine lv_iload_n hx hb dX8_witnesses_15 rfl (lv_at hl 3 rfl) ?_
      refine lv_bipush (v := 31) hx hb dX8_witnesses_16 (by decide) ?_
      refine lv_icmp_ge (tgt := 64) hx hb dX8_witnesses_18 (by decide) (fun c3 => ?_) (fun c3 => ?_)
      · have hF := ite_t c3 hF
        refine lv_iload_n hx hb dX8_witnesses_64 rfl (lv_at hl 2 rfl) ?_
        exact e_iP hx hb hr hP hS hlocks dX8_witnesses_65 hF
      · have hF := ite_f c3 hF
        refine lv_iload_n hx hb dX8_witnesses_21 rfl (lv_at hl 3 rfl) ?_
        refine k_Sv (As := [.int v3]) (rest := []) Z hK hP hS (t_J6_bitCount_0f7a4 l G hG v3 σ) (va_cwS 1 hts gX8_witnesses_J6_bitCount_0f7a4 rfl rfl rfl (by decide +kernel) ⟨Nat.le_of_ble_eq_true rfl, Nat.le_of_ble_eq_true rfl⟩) rfl hl.1 rfl (Nat.le_of_ble_eq_true rfl) ⟨Nat.zero_le _, Nat.zero_le _⟩ dX8_witnesses_22 (fun H locs hP hS => ?_)
        refine lv_iload_n hx hb dX8_witnesses_25 rfl (lv_at hl 2 rfl) ?_
        refine k_Sv (As := [.int v2]) (rest := [.int (f_J6_bitCount_0f7a4 v3)]) Z hK hP hS (t_J6_bitCount_0f7a4 l G hG v2 σ) (va_cwS 1 hts gX8_witnesses_J6_bitCount_0f7a4 rfl rfl rfl (by decide +kernel) ⟨Nat.le_of_ble_eq_true rfl, Nat.le_of_ble_eq_true rfl⟩) rfl hl.1 rfl (Nat.le_of_ble_eq_true rfl) ⟨Nat.zero_le _, Nat.zero_le _⟩ dX8_witnesses_26 (fun H locs hP hS => ?_)
        have J37 : ∀ (v1 : Int32) (v2 : Int32) (v3 : Int32) (z0 : Int32) (H : Heap) (locs : List Loc) (hP : Pw G σ H) (hS : va_S (AG G) s.heap H locs) (ls : Array Slot) (hl : lv_has ls 5 [(0, .ref (gA G 0)), (1, .int v1), (2, .int v2), (3, .int v3)]) (hF : f_X8_witnesses_37 σ (f_X8_witnesses_15 σ fl15) v1 v2 v3 z0 = some o), W p l e (headSpec wsX8_witnesses ({ frames := 3, cells := 0, slots := 0, locals := 67 })).room s m ([.ref (gA G 0)] : List Value).toArray below meth c H locs 0 0 (MQ below (qR G (some (.int o)) σ) ([.ref (gA G 0)] : List Value).toArray s 0 0 (AG G)) (F0 m 37 ls [.int z0]) := by
          intro v1 v2 v3 z0 H locs hP hS ls hl hF
          rw [f_X8_witnesses_37_e] at hF
          refine lv_istore (lv' := [(4, .int z0), (0, .ref (gA G 0)), (1, .int v1), (2, .int v2), (3, .int v3)]) hx hb dX8_witnesses_37 hl (by decide) rfl (fun ls hl => ?_)
          refine lv_iload hx hb dX8_witnesses_39 (lv_at hl 0 rfl) ?_
          have J58 : ∀ (v1 : Int32) (v2 : Int32) (v3 : Int32) (H : Heap) (locs : List Loc) (hP : Pw G σ H) (hS : va_S (AG G) s.heap H locs) (ls : Array Slot) (hl : lv_has ls 5 [(0, .ref (gA G 0)), (1, .int v1), (2, .int v2), (3, .int v3)]) (hF : f_X8_witnesses_58 σ (f_X8_witnesses_15 σ fl15) v1 v2 v3 = some o), W p l e (headSpec wsX8_witnesses ({ frames := 3, cells := 0, slots := 0, locals := 67 })).room s m ([.ref (gA G 0)] : List Value).toArray below meth c H locs 0 0 (MQ below (qR G (some (.int o)) σ) ([.ref (gA G 0)] : List Value).toArray s 0 0 (AG G)) (F0 m 58 ls []) := by
            intro v1 v2 v3 H locs hP hS ls hl hF
            rw [f_X8_witnesses_58_e] at hF
            refine lv_iinc (v := (v3 + (1 : Int32))) (lv' := [(3, .int (v3 + (1 : Int32))), (0, .ref (gA G 0)), (1, .int v1), (2, .int v2)]) hx hb dX8_witnesses_58 hl (k := 3) rfl rfl (by decide) rfl (fun ls hl => ?_)
            refine lv_goto (tgt := 15) hx hb dX8_witnesses_61 (by decide) ?_
            exact ih15 v1 v2 (v3 + (1 : Int32)) _ _ hP hS ls (lv_sub hl [1, 2, 3, 0] rfl) hF
          refine lv_if_eq (tgt := 58) hx hb dX8_witnesses_41 (by decide) (fun c4 => ?_) (fun c4 => ?_)
          · have hF := ite_t c4 hF
            exact J58 v1 v2 v3 _ _ hP hS ls (lv_sub hl [1, 2, 3, 4] rfl) hF
          · have hF := ite_f c4 hF
            refine lv_aload_n hx hb dX8_witnesses_44 rfl (lv_at hl 1 rfl) ?_
            refine va_get (ci := 4) (C := RX8) (T := TX8) (N := 7) (v := .ref (gA G 21)) hx hb hts inX8 hown hK.1 hP 0 (at_4 rfl) rfl 2 (by decide) w1 (fun _ h9 => h9) rfl dX8_witnesses_45 ?_
            refine lv_iload_n hx hb dX8_witnesses_48 rfl (lv_at hl 4 rfl) ?_
            obtain ⟨q5, h6, hF⟩ := ob_some hF
            refine k_VNv (As := [.int v3]) (rest := []) Z hK hP hS (t_X7_memoryOfGroup l G hG 21 v3 (rfl : kd 21 = 3) σ _ h6) ⟨va_cnB 1 hts gX8_witnesses_X7_memoryOfGroup_n149 rfl rfl rfl w3n w2 (by decide +kernel) ⟨Nat.le_of_ble_eq_true rfl, Nat.le_of_ble_eq_true rfl⟩, w4, w5⟩ (at_3 (rfl : kd 21 = 3)) rfl rfl hl.1 rfl (Nat.le_of_ble_eq_true rfl) ⟨Nat.zero_le _, Nat.zero_le _⟩ dX8_witnesses_49 (fun H locs hP hS => ?_)
            refine lv_iload_n hx hb dX8_witnesses_52 rfl (lv_at hl 2 rfl) ?_
            refine lv_icmp_ne (tgt := 58) hx hb dX8_witnesses_53 (by decide) (fun c7 => ?_) (fun c7 => ?_)
            · have hF := ite_f c7 hF
              exact J58 v1 v2 v3 _ _ hP hS ls (lv_sub hl [1, 2, 3, 4] rfl) hF
            · have hF := ite_t c7 hF
              refine lv_iload_n hx hb dX8_witnesses_56 rfl (lv_at hl 4 rfl) ?_
              refine lv_istore_n (lv' := [(2, .int v3), (4, .int z0), (0, .ref (gA G 0)), (1, .int v1), (3, .int v3)]) hx hb dX8_witnesses_57 rfl hl (by decide) rfl (fun ls hl => ?_)
              exact J58 v1 v3 v3 _ _ hP hS ls (lv_sub hl [2, 3, 0, 4] rfl) hF
        refine lv_icmp_ge (tgt := 36) hx hb dX8_witnesses_29 (by decide) (fun c8 => ?_) (fun c8 => ?_)
        · have hF := ite_t c8 hF
          refine lv_iconst (v := 0) hx hb dX8_witnesses_36 (by decide) ?_
          exact J37 v1 v2 v3 (0 : Int32) _ _ hP hS ls (lv_sub hl [0, 1, 2, 3] rfl) hF
        · have hF := ite_f c8 hF
          refine lv_iconst (v := 1) hx hb dX8_witnesses_32 (by decide) ?_
          refine lv_goto (tgt := 37) hx hb dX8_witnesses_33 (by decide) ?_
          exact J37 v1 v2 v3 (1 : Int32) _ _ hP hS ls (lv_sub hl [0, 1, 2, 3] rfl) hF
  refine lv_istore_n (lv' := [(3, .int (0 : Int32)), (2, .int (31 : Int32)), (1, .int q1), (0, .ref (gA G 0))]) hx hb dX8_witnesses_14 rfl hl (by decide) rfl (fun ls hl => ?_)
  exact J15 fu q1 (31 : Int32) (0 : Int32) _ _ hP hS ls (lv_sub hl [3, 2, 1, 0] rfl) hF
def f_X8_place (x1 : Int32) (x2 : Int32) (σ : St) : Option (Int32 × St) := (ob (f_X7_deedAt 21 x1 σ) (fun q1 => oc q1 ((some ((-1 : Int32), σ))) (fun i3 => (if (f_X8_isBelow x2 (2 : Int32)) = true then (ob (f_X0_print σ) (fun q5 => if x2 = 0 then (ob (f_X0_placeOf x1 q5) (fun q10 => some (q10, q5))) else (ob (f_X0_pageOf x1 q5) (fun q8 => some (q8, q5))))) else (some ((-1 : Int32), σ))))))
set_option maxRecDepth 100000 in
set_option maxHeartbeats 4000000 in
theorem t_X8_place (l : Launch) (G : GT) (hG : Dw G) (x1 : Int32) (x2 : Int32) (σ : St) (o : Int32 × St) (hF : f_X8_place x1 x2 σ = some o) : Ct l G yX8_place wsX8_place 5 109 [.ref (gA G 0), .int x1, .int x2] σ (some (.int o.1)) o.2 := by
  refine Met.ofW (cc := cX8_place) (maxL := 3) (ret := (some .int)) (by decide) rfl ?_
  intro p e s m args below meth c s₁ B hml hv
  obtain ⟨rfl, hP, hK⟩ := hv
  have hx := B.exec
  have hb := B.bytes
  have hr := B.returns
  have hts := atoms_spec (ws := wsX8_place) B.pre
  have hown : s.vm.findClass RX8 = some m.cls := findClass_of_methodNamed B.named
  have hlocks := B.notSynchronized
  have Z : CallFix p m c cX8_place 3 s _ wsX8_place RX8 := ⟨hx, hb, hml, hown, hts⟩
  have hS : va_S (AG G) s.heap s.heap [] := va_S.rf
  have inX8 : ∀ w ∈ u_ws RX8 TX8 7, w ∈ wsX8_place := by decide +kernel
  have w1 := hts (.fieldLink RX8 27 "AlmanacOfTheYearGone" "now" "LAlmanacOfTheYearGone$Year;") (by decide +kernel)
  have w2 := hts (.initialized RX7) (by decide +kernel)
  have w3n : va_Nw (.methodLinkNest "AlmanacOfTheYearGone" 78 ⟨"AlmanacOfTheYearGone$Year", "deedAt", "(I)LAlmanacOfTheYearGone$Deed;"⟩ "AlmanacOfTheYearGone") s := hK.2 _ (List.mem_of_getElem? (i := 52) rfl)
  have w3 := va_Nw.use (A := [.ref (gA G 0), .int x1, .int x2].toArray) rfl w3n
  have w4 := hts (.instanceMethod yX7_deedAt) (by decide +kernel)
  have w5 := hts (.selects RX7 yX7_deedAt yX7_deedAt) (by decide +kernel)
  have w6 := hts (.fieldLink RX8 19 "AlmanacOfTheYearGone" "almanac" "LAlmanacOfTheYearGone$Almanac;") (by decide +kernel)
  have w7 := hts (.initialized RX0) (by decide +kernel)
  have w8n : va_Nw (.methodLinkNest "AlmanacOfTheYearGone" 157 ⟨"AlmanacOfTheYearGone$Almanac", "print", "()V"⟩ "AlmanacOfTheYearGone") s := hK.2 _ (List.mem_of_getElem? (i := 66) rfl)
  have w8 := va_Nw.use (A := [.ref (gA G 0), .int x1, .int x2].toArray) rfl w8n
  have w9 := hts (.instanceMethod yX0_print) (by decide +kernel)
  have w10 := hts (.selects RX0 yX0_print yX0_print) (by decide +kernel)
  have w11n : va_Nw (.methodLinkNest "AlmanacOfTheYearGone" 163 ⟨"AlmanacOfTheYearGone$Almanac", "pageOf", "(I)I"⟩ "AlmanacOfTheYearGone") s := hK.2 _ (List.mem_of_getElem? (i := 71) rfl)
  have w11 := va_Nw.use (A := [.ref (gA G 0), .int x1, .int x2].toArray) rfl w11n
  have w12 := hts (.instanceMethod yX0_pageOf) (by decide +kernel)
  have w13 := hts (.selects RX0 yX0_pageOf yX0_pageOf) (by decide +kernel)
  have w14n : va_Nw (.methodLinkNest "AlmanacOfTheYearGone" 160 ⟨"AlmanacOfTheYearGone$Almanac", "placeOf", "(I)I"⟩ "AlmanacOfTheYearGone") s := hK.2 _ (List.mem_of_getElem? (i := 70) rfl)
  have w14 := va_Nw.use (A := [.ref (gA G 0), .int x1, .int x2].toArray) rfl w14n
  have w15 := hts (.instanceMethod yX0_placeOf) (by decide +kernel)
  have w16 := hts (.selects RX0 yX0_placeOf yX0_placeOf) (by decide +kernel)
  have hl := lv_entry ([.ref (gA G 0), .int x1, .int x2]) (n := 3) (Nat.le_of_ble_eq_true rfl)
  rw [lg_entry_eq]
  generalize (lg_sl ([.ref (gA G 0), .int x1, .int x2]) ++ List.replicate (3 - (lg_sl ([.ref (gA G 0), .int x1, .int x2])).length) Slot.unset).toArray = ls at hl ⊢
  have hl : lv_has ls 3 [(0, .ref (gA G 0)), (1, .int x1), (2, .int x2)] := hl
  unfold f_X8_place at hF
  refine lv_aload_n hx hb dX8_place_0 rfl (lv_at hl 0 rfl) ?_
  refine va_get (ci := 4) (C := RX8) (T := TX8) (N := 7) (v := .ref (gA G 21)) hx hb hts inX8 hown hK.1 hP 0 (at_4 rfl) rfl 2 (by decide) w1 (fun _ h9 => h9) rfl dX8_place_1 ?_
  refine lv_iload_n hx hb dX8_place_4 rfl (lv_at hl 1 rfl) ?_
  obtain ⟨q1, h2, hF⟩ := ob_some hF
  refine k_VNv (As := [.int x1]) (rest := []) Z hK hP hS (t_X7_deedAt l G hG 21 x1 (rfl : kd 21 = 3) σ _ h2) ⟨va_cnB 1 hts gX8_place_X7_deedAt_n78 rfl rfl rfl w3n w2 (by decide +kernel) ⟨Nat.le_of_ble_eq_true rfl, Nat.le_of_ble_eq_true rfl⟩, w4, w5⟩ (at_3 (rfl : kd 21 = 3)) rfl rfl hl.1 rfl (Nat.le_of_ble_eq_true rfl) ⟨Nat.zero_le _, Nat.zero_le _⟩ dX8_place_5 (fun H locs hP hS => ?_)
  rcases q1 with _ | i3
  · have hF := oc_n hF
    refine W.eq (g2 := F0 m 8 ls [.null]) rfl ?_
    refine lv_ifnullN (tgt := 19) hx hb dX8_place_8 (by decide) ?_
    refine lv_iconst (v := -1) hx hb dX8_place_19 (by decide) ?_
    exact e_iS hx hb hr hP hS hlocks dX8_place_20 hF
  · have hF := oc_s hF
    have ki3 : kd i3 = 1 := q_X7_deedAt (rfl : kd 21 = 3) h2
    refine W.eq (g2 := F0 m 8 ls [.ref (gA G i3)]) rfl ?_
    refine lv_ifnull hx hb dX8_place_8 ?_
    refine lv_iload_n hx hb dX8_place_11 rfl (lv_at hl 2 rfl) ?_
    refine lv_iconst (v := 2) hx hb dX8_place_12 (by decide) ?_
    refine k_Sv (As := [.int x2, .int (2 : Int32)]) (rest := []) Z hK hP hS (t_X8_isBelow l G hG x2 (2 : Int32) σ) (va_cwS 2 hts gX8_place_X8_isBelow rfl rfl rfl (by decide +kernel) ⟨Nat.le_of_ble_eq_true rfl, Nat.le_of_ble_eq_true rfl⟩) rfl hl.1 rfl (Nat.le_of_ble_eq_true rfl) ⟨Nat.zero_le _, Nat.zero_le _⟩ dX8_place_13 (fun H locs hP hS => ?_)
    refine lv_if_ne (tgt := 21) hx hb dX8_place_16 (by decide) (fun c4 => ?_) (fun c4 => ?_)
    · have hF := ite_t (b2i_n0 c4) hF
      refine lv_aload_n hx hb dX8_place_21 rfl (lv_at hl 0 rfl) ?_
      refine va_get (ci := 4) (C := RX8) (T := TX8) (N := 7) (v := .ref (gA G 18)) hx hb hts inX8 hown hK.1 hP 0 (at_4 rfl) rfl 1 (by decide) w6 (fun _ h9 => h9) rfl dX8_place_22 ?_
      obtain ⟨q5, h6, hF⟩ := ob_some hF
      refine k_VN0 (As := []) (rest := []) Z hK hP hS (t_X0_print l G hG σ _ h6) ⟨va_cnB 0 hts gX8_place_X0_print_n157 rfl rfl rfl w8n w7 (by decide +kernel) ⟨Nat.le_of_ble_eq_true rfl, Nat.le_of_ble_eq_true rfl⟩, w9, w10⟩ (at_0 (rfl : kd 18 = 0)) rfl rfl hl.1 rfl (Nat.le_of_ble_eq_true rfl) ⟨Nat.zero_le _, Nat.zero_le _⟩ dX8_place_25 (fun H locs hP hS => ?_)
      refine lv_iload_n hx hb dX8_place_28 rfl (lv_at hl 2 rfl) ?_
      refine lv_if_ne (tgt := 43) hx hb dX8_place_29 (by decide) (fun c7 => ?_) (fun c7 => ?_)
      · have hF := ite_f c7 hF
        refine lv_aload_n hx hb dX8_place_43 rfl (lv_at hl 0 rfl) ?_
        refine va_get (ci := 4) (C := RX8) (T := TX8) (N := 7) (v := .ref (gA G 18)) hx hb hts inX8 hown hK.1 hP 0 (at_4 rfl) rfl 1 (by decide) w6 (fun _ h9 => h9) rfl dX8_place_44 ?_
        refine lv_iload_n hx hb dX8_place_47 rfl (lv_at hl 1 rfl) ?_
        obtain ⟨q8, h9, hF⟩ := ob_some hF
        refine k_VNv (As := [.int x1]) (rest := []) Z hK hP hS (t_X0_pageOf l G hG x1 q5 _ h9) ⟨va_cnB 1 hts gX8_place_X0_pageOf_n163 rfl rfl rfl w11n w7 (by decide +kernel) ⟨Nat.le_of_ble_eq_true rfl, Nat.le_of_ble_eq_true rfl⟩, w12, w13⟩ (at_0 (rfl : kd 18 = 0)) rfl rfl hl.1 rfl (Nat.le_of_ble_eq_true rfl) ⟨Nat.zero_le _, Nat.zero_le _⟩ dX8_place_48 (fun H locs hP hS => ?_)
        exact e_iS hx hb hr hP hS hlocks dX8_place_51 hF
      · have hF := ite_t c7 hF
        refine lv_aload_n hx hb dX8_place_32 rfl (lv_at hl 0 rfl) ?_
        refine va_get (ci := 4) (C := RX8) (T := TX8) (N := 7) (v := .ref (gA G 18)) hx hb hts inX8 hown hK.1 hP 0 (at_4 rfl) rfl 1 (by decide) w6 (fun _ h9 => h9) rfl dX8_place_33 ?_
        refine lv_iload_n hx hb dX8_place_36 rfl (lv_at hl 1 rfl) ?_
        obtain ⟨q10, h11, hF⟩ := ob_some hF
        refine k_VNv (As := [.int x1]) (rest := []) Z hK hP hS (t_X0_placeOf l G hG x1 q5 _ h11) ⟨va_cnB 1 hts gX8_place_X0_placeOf_n160 rfl rfl rfl w14n w7 (by decide +kernel) ⟨Nat.le_of_ble_eq_true rfl, Nat.le_of_ble_eq_true rfl⟩, w15, w16⟩ (at_0 (rfl : kd 18 = 0)) rfl rfl hl.1 rfl (Nat.le_of_ble_eq_true rfl) ⟨Nat.zero_le _, Nat.zero_le _⟩ dX8_place_37 (fun H locs hP hS => ?_)
        refine lv_goto (tgt := 51) hx hb dX8_place_40 (by decide) ?_
        exact e_iS hx hb hr hP hS hlocks dX8_place_51 hF
    · have hF := ite_f (b2i_e0 c4) hF
      refine lv_iconst (v := -1) hx hb dX8_place_19 (by decide) ?_
      exact e_iS hx hb hr hP hS hlocks dX8_place_20 hF
def f_X8_pages (σ : St) : Option (Int32 × St) := (ob (f_X0_print σ) (fun q1 => some (q1 18 4, q1)))
set_option maxRecDepth 100000 in
set_option maxHeartbeats 4000000 in
theorem t_X8_pages (l : Launch) (G : GT) (hG : Dw G) (σ : St) (o : Int32 × St) (hF : f_X8_pages σ = some o) : Ct l G yX8_pages wsX8_pages 5 109 [.ref (gA G 0)] σ (some (.int o.1)) o.2 := by
  refine Met.ofW (cc := cX8_pages) (maxL := 1) (ret := (some .int)) (by decide) rfl ?_
  intro p e s m args below meth c s₁ B hml hv
  obtain ⟨rfl, hP, hK⟩ := hv
  have hx := B.exec
  have hb := B.bytes
  have hr := B.returns
  have hts := atoms_spec (ws := wsX8_pages) B.pre
  have hown : s.vm.findClass RX8 = some m.cls := findClass_of_methodNamed B.named
  have hlocks := B.notSynchronized
  have Z : CallFix p m c cX8_pages 1 s _ wsX8_pages RX8 := ⟨hx, hb, hml, hown, hts⟩
  have hS : va_S (AG G) s.heap s.heap [] := va_S.rf
  have inX8 : ∀ w ∈ u_ws RX8 TX8 7, w ∈ wsX8_pages := by decide +kernel
  have inX0 : ∀ w ∈ u_ws RX0 TX0 5, w ∈ wsX8_pages := by decide +kernel
  have w1 := hts (.fieldLink RX8 19 "AlmanacOfTheYearGone" "almanac" "LAlmanacOfTheYearGone$Almanac;") (by decide +kernel)
  have w2 := hts (.initialized RX0) (by decide +kernel)
  have w3n : va_Nw (.methodLinkNest "AlmanacOfTheYearGone" 157 ⟨"AlmanacOfTheYearGone$Almanac", "print", "()V"⟩ "AlmanacOfTheYearGone") s := hK.2 _ (List.mem_of_getElem? (i := 66) rfl)
  have w3 := va_Nw.use (A := [.ref (gA G 0)].toArray) rfl w3n
  have w4 := hts (.instanceMethod yX0_print) (by decide +kernel)
  have w5 := hts (.selects RX0 yX0_print yX0_print) (by decide +kernel)
  have w6n : va_Nw (.fieldLinkNest "AlmanacOfTheYearGone" 166 "AlmanacOfTheYearGone$Almanac" "pageCount" "I" "AlmanacOfTheYearGone") s := hK.2 _ (List.mem_of_getElem? (i := 31) rfl)
  have w6 := va_Nw.use (A := [.ref (gA G 0)].toArray) rfl w6n
  have hl := lv_entry ([.ref (gA G 0)]) (n := 1) (Nat.le_of_ble_eq_true rfl)
  rw [lg_entry_eq]
  generalize (lg_sl ([.ref (gA G 0)]) ++ List.replicate (1 - (lg_sl ([.ref (gA G 0)])).length) Slot.unset).toArray = ls at hl ⊢
  have hl : lv_has ls 1 [(0, .ref (gA G 0))] := hl
  unfold f_X8_pages at hF
  refine lv_aload_n hx hb dX8_pages_0 rfl (lv_at hl 0 rfl) ?_
  refine va_get (ci := 4) (C := RX8) (T := TX8) (N := 7) (v := .ref (gA G 18)) hx hb hts inX8 hown hK.1 hP 0 (at_4 rfl) rfl 1 (by decide) w1 (fun _ h9 => h9) rfl dX8_pages_1 ?_
  obtain ⟨q1, h2, hF⟩ := ob_some hF
  refine k_VN0 (As := []) (rest := []) Z hK hP hS (t_X0_print l G hG σ _ h2) ⟨va_cnB 0 hts gX8_pages_X0_print_n157 rfl rfl rfl w3n w2 (by decide +kernel) ⟨Nat.le_of_ble_eq_true rfl, Nat.le_of_ble_eq_true rfl⟩, w4, w5⟩ (at_0 (rfl : kd 18 = 0)) rfl rfl hl.1 rfl (Nat.le_of_ble_eq_true rfl) ⟨Nat.zero_le _, Nat.zero_le _⟩ dX8_pages_4 (fun H locs hP hS => ?_)
  refine lv_aload_n hx hb dX8_pages_7 rfl (lv_at hl 0 rfl) ?_
  refine va_get (ci := 4) (C := RX8) (T := TX8) (N := 7) (v := .ref (gA G 18)) hx hb hts inX8 hown hK.1 hP 0 (at_4 rfl) rfl 1 (by decide) w1 (fun _ h9 => h9) rfl dX8_pages_8 ?_
  refine va_getN (ci := 0) (C := RX0) (T := TX0) (N := 5) (v := .int (q1 18 4)) hx hb hts inX0 hown hK.1 hP 18 (at_0 (rfl : kd 18 = 0)) rfl 4 (by decide) w6 (fun _ h9 => h9) rfl dX8_pages_11 ?_
  exact e_iS hx hb hr hP hS hlocks dX8_pages_14 hF
def f_X8_looksUp (x1 : Int32) (x2 : Int32) (σ : St) : Option (Int32 × St) := (if (f_X8_isBelow x1 (5 : Int32)) = true then (if (f_X8_isBelow x2 (2 : Int32)) = true then (ob (f_X0_print σ) (fun q3 => ob (f_X0_greatestBy x1 q3) (fun q5 => ob (f_X0_pageOf q5 q3) (fun q7 => if x2 = 0 then (some (q7, q3)) else (ob (f_X0_newsFor x1 q7 q3) (fun q10 => some (q10, q3))))))) else (some ((-1 : Int32), σ))) else (some ((-1 : Int32), σ)))
set_option maxRecDepth 100000 in
set_option maxHeartbeats 4000000 in
theorem t_X8_looksUp (l : Launch) (G : GT) (hG : Dw G) (x1 : Int32) (x2 : Int32) (σ : St) (o : Int32 × St) (hF : f_X8_looksUp x1 x2 σ = some o) : Ct l G yX8_looksUp wsX8_looksUp 5 109 [.ref (gA G 0), .int x1, .int x2] σ (some (.int o.1)) o.2 := by
  refine Met.ofW (cc := cX8_looksUp) (maxL := 4) (ret := (some .int)) (by decide) rfl ?_
  intro p e s m args below meth c s₁ B hml hv
  obtain ⟨rfl, hP, hK⟩ := hv
  have hx := B.exec
  have hb := B.bytes
  have hr := B.returns
  have hts := atoms_spec (ws := wsX8_looksUp) B.pre
  have hown : s.vm.findClass RX8 = some m.cls := findClass_of_methodNamed B.named
  have hlocks := B.notSynchronized
  have Z : CallFix p m c cX8_looksUp 4 s _ wsX8_looksUp RX8 := ⟨hx, hb, hml, hown, hts⟩
  have hS : va_S (AG G) s.heap s.heap [] := va_S.rf
  have inX8 : ∀ w ∈ u_ws RX8 TX8 7, w ∈ wsX8_looksUp := by decide +kernel
  have w1 := hts (.fieldLink RX8 19 "AlmanacOfTheYearGone" "almanac" "LAlmanacOfTheYearGone$Almanac;") (by decide +kernel)
  have w2 := hts (.initialized RX0) (by decide +kernel)
  have w3n : va_Nw (.methodLinkNest "AlmanacOfTheYearGone" 157 ⟨"AlmanacOfTheYearGone$Almanac", "print", "()V"⟩ "AlmanacOfTheYearGone") s := hK.2 _ (List.mem_of_getElem? (i := 66) rfl)
  have w3 := va_Nw.use (A := [.ref (gA G 0), .int x1, .int x2].toArray) rfl w3n
  have w4 := hts (.instanceMethod yX0_print) (by decide +kernel)
  have w5 := hts (.selects RX0 yX0_print yX0_print) (by decide +kernel)
  have w6n : va_Nw (.methodLinkNest "AlmanacOfTheYearGone" 169 ⟨"AlmanacOfTheYearGone$Almanac", "greatestBy", "(I)I"⟩ "AlmanacOfTheYearGone") s := hK.2 _ (List.mem_of_getElem? (i := 72) rfl)
  have w6 := va_Nw.use (A := [.ref (gA G 0), .int x1, .int x2].toArray) rfl w6n
  have w7 := hts (.instanceMethod yX0_greatestBy) (by decide +kernel)
  have w8 := hts (.selects RX0 yX0_greatestBy yX0_greatestBy) (by decide +kernel)
  have w9n : va_Nw (.methodLinkNest "AlmanacOfTheYearGone" 163 ⟨"AlmanacOfTheYearGone$Almanac", "pageOf", "(I)I"⟩ "AlmanacOfTheYearGone") s := hK.2 _ (List.mem_of_getElem? (i := 71) rfl)
  have w9 := va_Nw.use (A := [.ref (gA G 0), .int x1, .int x2].toArray) rfl w9n
  have w10 := hts (.instanceMethod yX0_pageOf) (by decide +kernel)
  have w11 := hts (.selects RX0 yX0_pageOf yX0_pageOf) (by decide +kernel)
  have w12n : va_Nw (.methodLinkNest "AlmanacOfTheYearGone" 172 ⟨"AlmanacOfTheYearGone$Almanac", "newsFor", "(II)I"⟩ "AlmanacOfTheYearGone") s := hK.2 _ (List.mem_of_getElem? (i := 73) rfl)
  have w12 := va_Nw.use (A := [.ref (gA G 0), .int x1, .int x2].toArray) rfl w12n
  have w13 := hts (.instanceMethod yX0_newsFor) (by decide +kernel)
  have w14 := hts (.selects RX0 yX0_newsFor yX0_newsFor) (by decide +kernel)
  have hl := lv_entry ([.ref (gA G 0), .int x1, .int x2]) (n := 4) (Nat.le_of_ble_eq_true rfl)
  rw [lg_entry_eq]
  generalize (lg_sl ([.ref (gA G 0), .int x1, .int x2]) ++ List.replicate (4 - (lg_sl ([.ref (gA G 0), .int x1, .int x2])).length) Slot.unset).toArray = ls at hl ⊢
  have hl : lv_has ls 4 [(0, .ref (gA G 0)), (1, .int x1), (2, .int x2)] := hl
  unfold f_X8_looksUp at hF
  refine lv_iload_n hx hb dX8_looksUp_0 rfl (lv_at hl 1 rfl) ?_
  refine lv_iconst (v := 5) hx hb dX8_looksUp_1 (by decide) ?_
  refine k_Sv (As := [.int x1, .int (5 : Int32)]) (rest := []) Z hK hP hS (t_X8_isBelow l G hG x1 (5 : Int32) σ) (va_cwS 2 hts gX8_looksUp_X8_isBelow rfl rfl rfl (by decide +kernel) ⟨Nat.le_of_ble_eq_true rfl, Nat.le_of_ble_eq_true rfl⟩) rfl hl.1 rfl (Nat.le_of_ble_eq_true rfl) ⟨Nat.zero_le _, Nat.zero_le _⟩ dX8_looksUp_2 (fun H locs hP hS => ?_)
  refine lv_if_eq (tgt := 16) hx hb dX8_looksUp_5 (by decide) (fun c1 => ?_) (fun c1 => ?_)
  · have hF := ite_f (b2i_e0 c1) hF
    refine lv_iconst (v := -1) hx hb dX8_looksUp_16 (by decide) ?_
    exact e_iS hx hb hr hP hS hlocks dX8_looksUp_17 hF
  · have hF := ite_t (b2i_n0 c1) hF
    refine lv_iload_n hx hb dX8_looksUp_8 rfl (lv_at hl 2 rfl) ?_
    refine lv_iconst (v := 2) hx hb dX8_looksUp_9 (by decide) ?_
    refine k_Sv (As := [.int x2, .int (2 : Int32)]) (rest := []) Z hK hP hS (t_X8_isBelow l G hG x2 (2 : Int32) σ) (va_cwS 2 hts gX8_looksUp_X8_isBelow rfl rfl rfl (by decide +kernel) ⟨Nat.le_of_ble_eq_true rfl, Nat.le_of_ble_eq_true rfl⟩) rfl hl.1 rfl (Nat.le_of_ble_eq_true rfl) ⟨Nat.zero_le _, Nat.zero_le _⟩ dX8_looksUp_10 (fun H locs hP hS => ?_)
    refine lv_if_ne (tgt := 18) hx hb dX8_looksUp_13 (by decide) (fun c2 => ?_) (fun c2 => ?_)
    · have hF := ite_t (b2i_n0 c2) hF
      refine lv_aload_n hx hb dX8_looksUp_18 rfl (lv_at hl 0 rfl) ?_
      refine va_get (ci := 4) (C := RX8) (T := TX8) (N := 7) (v := .ref (gA G 18)) hx hb hts inX8 hown hK.1 hP 0 (at_4 rfl) rfl 1 (by decide) w1 (fun _ h9 => h9) rfl dX8_looksUp_19 ?_
      obtain ⟨q3, h4, hF⟩ := ob_some hF
      refine k_VN0 (As := []) (rest := []) Z hK hP hS (t_X0_print l G hG σ _ h4) ⟨va_cnB 0 hts gX8_looksUp_X0_print_n157 rfl rfl rfl w3n w2 (by decide +kernel) ⟨Nat.le_of_ble_eq_true rfl, Nat.le_of_ble_eq_true rfl⟩, w4, w5⟩ (at_0 (rfl : kd 18 = 0)) rfl rfl hl.1 rfl (Nat.le_of_ble_eq_true rfl) ⟨Nat.zero_le _, Nat.zero_le _⟩ dX8_looksUp_22 (fun H locs hP hS => ?_)
      refine lv_aload_n hx hb dX8_looksUp_25 rfl (lv_at hl 0 rfl) ?_
      refine va_get (ci := 4) (C := RX8) (T := TX8) (N := 7) (v := .ref (gA G 18)) hx hb hts inX8 hown hK.1 hP 0 (at_4 rfl) rfl 1 (by decide) w1 (fun _ h9 => h9) rfl dX8_looksUp_26 ?_
      refine lv_aload_n hx hb dX8_looksUp_29 rfl (lv_at hl 0 rfl) ?_
      refine va_get (ci := 4) (C := RX8) (T := TX8) (N := 7) (v := .ref (gA G 18)) hx hb hts inX8 hown hK.1 hP 0 (at_4 rfl) rfl 1 (by decide) w1 (fun _ h9 => h9) rfl dX8_looksUp_30 ?_
      refine lv_iload_n hx hb dX8_looksUp_33 rfl (lv_at hl 1 rfl) ?_
      obtain ⟨q5, h6, hF⟩ := ob_some hF
      refine k_VNv (As := [.int x1]) (rest := [.ref (gA G 18)]) Z hK hP hS (t_X0_greatestBy l G hG x1 q3 _ h6) ⟨va_cnB 1 hts gX8_looksUp_X0_greatestBy_n169 rfl rfl rfl w6n w2 (by decide +kernel) ⟨Nat.le_of_ble_eq_true rfl, Nat.le_of_ble_eq_true rfl⟩, w7, w8⟩ (at_0 (rfl : kd 18 = 0)) rfl rfl hl.1 rfl (Nat.le_of_ble_eq_true rfl) ⟨Nat.zero_le _, Nat.zero_le _⟩ dX8_looksUp_34 (fun H locs hP hS => ?_)
      obtain ⟨q7, h8, hF⟩ := ob_some hF
      refine k_VNv (As := [.int q5]) (rest := []) Z hK hP hS (t_X0_pageOf l G hG q5 q3 _ h8) ⟨va_cnB 1 hts gX8_looksUp_X0_pageOf_n163 rfl rfl rfl w9n w2 (by decide +kernel) ⟨Nat.le_of_ble_eq_true rfl, Nat.le_of_ble_eq_true rfl⟩, w10, w11⟩ (at_0 (rfl : kd 18 = 0)) rfl rfl hl.1 rfl (Nat.le_of_ble_eq_true rfl) ⟨Nat.zero_le _, Nat.zero_le _⟩ dX8_looksUp_37 (fun H locs hP hS => ?_)
      refine lv_istore_n (lv' := [(3, .int q7), (0, .ref (gA G 0)), (1, .int x1), (2, .int x2)]) hx hb dX8_looksUp_40 rfl hl (by decide) rfl (fun ls hl => ?_)
      refine lv_iload_n hx hb dX8_looksUp_41 rfl (lv_at hl 3 rfl) ?_
      refine lv_if_ne (tgt := 49) hx hb dX8_looksUp_42 (by decide) (fun c9 => ?_) (fun c9 => ?_)
      · have hF := ite_f c9 hF
        refine lv_aload_n hx hb dX8_looksUp_49 rfl (lv_at hl 1 rfl) ?_
        refine va_get (ci := 4) (C := RX8) (T := TX8) (N := 7) (v := .ref (gA G 18)) hx hb hts inX8 hown hK.1 hP 0 (at_4 rfl) rfl 1 (by decide) w1 (fun _ h9 => h9) rfl dX8_looksUp_50 ?_
        refine lv_iload_n hx hb dX8_looksUp_53 rfl (lv_at hl 2 rfl) ?_
        refine lv_iload_n hx hb dX8_looksUp_54 rfl (lv_at hl 0 rfl) ?_
        obtain ⟨q10, h11, hF⟩ := ob_some hF
        refine k_VNv (As := [.int x1, .int q7]) (rest := []) Z hK hP hS (t_X0_newsFor l G hG x1 q7 q3 _ h11) ⟨va_cnB 2 hts gX8_looksUp_X0_newsFor_n172 rfl rfl rfl w12n w2 (by decide +kernel) ⟨Nat.le_of_ble_eq_true rfl, Nat.le_of_ble_eq_true rfl⟩, w13, w14⟩ (at_0 (rfl : kd 18 = 0)) rfl rfl hl.1 rfl (Nat.le_of_ble_eq_true rfl) ⟨Nat.zero_le _, Nat.zero_le _⟩ dX8_looksUp_55 (fun H locs hP hS => ?_)
        exact e_iS hx hb hr hP hS hlocks dX8_looksUp_58 hF
      · have hF := ite_t c9 hF
        refine lv_iload_n hx hb dX8_looksUp_45 rfl (lv_at hl 0 rfl) ?_
        refine lv_goto (tgt := 58) hx hb dX8_looksUp_46 (by decide) ?_
        exact e_iS hx hb hr hP hS hlocks dX8_looksUp_58 hF
    · have hF := ite_f (b2i_e0 c2) hF
      refine lv_iconst (v := -1) hx hb dX8_looksUp_16 (by decide) ?_
      exact e_iS hx hb hr hP hS hlocks dX8_looksUp_17 hF
def f_X8_uncut (x1 : Int32) (x2 : Int32) (σ : St) : Option (Int32 × St) := (if (f_X8_isWithin x1 (9 : Int32)) = true then (if (f_X8_isBelow x2 (2 : Int32)) = true then (ob (f_X0_print σ) (fun q3 => if x2 = 0 then (ob (f_X0_deedsFromPage ((q3 18 4) - x1) q3) (fun q8 => some (q8, q3))) else (ob (f_X0_doersAheadOfPage ((q3 18 4) - x1) q3) (fun q6 => some ((31 : Int32) &&& (q6 ^^^ (-1 : Int32)), q3))))) else (some ((-1 : Int32), σ))) else (some ((-1 : Int32), σ)))
set_option maxRecDepth 100000 in
set_option maxHeartbeats 4000000 in
theorem t_X8_uncut (l : Launch) (G : GT) (hG : Dw G) (x1 : Int32) (x2 : Int32) (σ : St) (o : Int32 × St) (hF : f_X8_uncut x1 x2 σ = some o) : Ct l G yX8_uncut wsX8_uncut 5 109 [.ref (gA G 0), .int x1, .int x2] σ (some (.int o.1)) o.2 := by
  refine Met.ofW (cc := cX8_uncut) (maxL := 4) (ret := (some .int)) (by decide) rfl ?_
  intro p e s m args below meth c s₁ B hml hv
  obtain ⟨rfl, hP, hK⟩ := hv
  have hx := B.exec
  have hb := B.bytes
  have hr := B.returns
  have hts := atoms_spec (ws := wsX8_uncut) B.pre
  have hown : s.vm.findClass RX8 = some m.cls := findClass_of_methodNamed B.named
  have hlocks := B.notSynchronized
  have Z : CallFix p m c cX8_uncut 4 s _ wsX8_uncut RX8 := ⟨hx, hb, hml, hown, hts⟩
  have hS : va_S (AG G) s.heap s.heap [] := va_S.rf
  have inX8 : ∀ w ∈ u_ws RX8 TX8 7, w ∈ wsX8_uncut := by decide +kernel
  have inX0 : ∀ w ∈ u_ws RX0 TX0 5, w ∈ wsX8_uncut := by decide +kernel
  have w1 := hts (.fieldLink RX8 19 "AlmanacOfTheYearGone" "almanac" "LAlmanacOfTheYearGone$Almanac;") (by decide +kernel)
  have w2 := hts (.initialized RX0) (by decide +kernel)
  have w3n : va_Nw (.methodLinkNest "AlmanacOfTheYearGone" 157 ⟨"AlmanacOfTheYearGone$Almanac", "print", "()V"⟩ "AlmanacOfTheYearGone") s := hK.2 _ (List.mem_of_getElem? (i := 66) rfl)
  have w3 := va_Nw.use (A := [.ref (gA G 0), .int x1, .int x2].toArray) rfl w3n
  have w4 := hts (.instanceMethod yX0_print) (by decide +kernel)
  have w5 := hts (.selects RX0 yX0_print yX0_print) (by decide +kernel)
  have w6n : va_Nw (.fieldLinkNest "AlmanacOfTheYearGone" 166 "AlmanacOfTheYearGone$Almanac" "pageCount" "I" "AlmanacOfTheYearGone") s := hK.2 _ (List.mem_of_getElem? (i := 31) rfl)
  have w6 := va_Nw.use (A := [.ref (gA G 0), .int x1, .int x2].toArray) rfl w6n
  have w7n : va_Nw (.methodLinkNest "AlmanacOfTheYearGone" 178 ⟨"AlmanacOfTheYearGone$Almanac", "doersAheadOfPage", "(I)I"⟩ "AlmanacOfTheYearGone") s := hK.2 _ (List.mem_of_getElem? (i := 77) rfl)
  have w7 := va_Nw.use (A := [.ref (gA G 0), .int x1, .int x2].toArray) rfl w7n
  have w8 := hts (.instanceMethod yX0_doersAheadOfPage) (by decide +kernel)
  have w9 := hts (.selects RX0 yX0_doersAheadOfPage yX0_doersAheadOfPage) (by decide +kernel)
  have w10n : va_Nw (.methodLinkNest "AlmanacOfTheYearGone" 175 ⟨"AlmanacOfTheYearGone$Almanac", "deedsFromPage", "(I)I"⟩ "AlmanacOfTheYearGone") s := hK.2 _ (List.mem_of_getElem? (i := 76) rfl)
  have w10 := va_Nw.use (A := [.ref (gA G 0), .int x1, .int x2].toArray) rfl w10n
  have w11 := hts (.instanceMethod yX0_deedsFromPage) (by decide +kernel)
  have w12 := hts (.selects RX0 yX0_deedsFromPage yX0_deedsFromPage) (by decide +kernel)
  have hl := lv_entry ([.ref (gA G 0), .int x1, .int x2]) (n := 4) (Nat.le_of_ble_eq_true rfl)
  rw [lg_entry_eq]
  generalize (lg_sl ([.ref (gA G 0), .int x1, .int x2]) ++ List.replicate (4 - (lg_sl ([.ref (gA G 0), .int x1, .int x2])).length) Slot.unset).toArray = ls at hl ⊢
  have hl : lv_has ls 4 [(0, .ref (gA G 0)), (1, .int x1), (2, .int x2)] := hl
  unfold f_X8_uncut at hF
  refine lv_iload_n hx hb dX8_uncut_0 rfl (lv_at hl 1 rfl) ?_
  refine lv_bipush (v := 9) hx hb dX8_uncut_1 (by decide) ?_
  refine k_Sv (As := [.int x1, .int (9 : Int32)]) (rest := []) Z hK hP hS (t_X8_isWithin l G hG x1 (9 : Int32) σ) (va_cwS 2 hts gX8_uncut_X8_isWithin rfl rfl rfl (by decide +kernel) ⟨Nat.le_of_ble_eq_true rfl, Nat.le_of_ble_eq_true rfl⟩) rfl hl.1 rfl (Nat.le_of_ble_eq_true rfl) ⟨Nat.zero_le _, Nat.zero_le _⟩ dX8_uncut_3 (fun H locs hP hS => ?_)
  refine lv_if_eq (tgt := 17) hx hb dX8_uncut_6 (by decide) (fun c1 => ?_) (fun c1 => ?_)
  · have hF := ite_f (b2i_e0 c1) hF
    refine lv_iconst (v := -1) hx hb dX8_uncut_17 (by decide) ?_
    exact e_iS hx hb hr hP hS hlocks dX8_uncut_18 hF
  · have hF := ite_t (b2i_n0 c1) hF
    refine lv_iload_n hx hb dX8_uncut_9 rfl (lv_at hl 2 rfl) ?_
    refine lv_iconst (v := 2) hx hb dX8_uncut_10 (by decide) ?_
    refine k_Sv (As := [.int x2, .int (2 : Int32)]) (rest := []) Z hK hP hS (t_X8_isBelow l G hG x2 (2 : Int32) σ) (va_cwS 2 hts gX8_uncut_X8_isBelow rfl rfl rfl (by decide +kernel) ⟨Nat.le_of_ble_eq_true rfl, Nat.le_of_ble_eq_true rfl⟩) rfl hl.1 rfl (Nat.le_of_ble_eq_true rfl) ⟨Nat.zero_le _, Nat.zero_le _⟩ dX8_uncut_11 (fun H locs hP hS => ?_)
    refine lv_if_ne (tgt := 19) hx hb dX8_uncut_14 (by decide) (fun c2 => ?_) (fun c2 => ?_)
    · have hF := ite_t (b2i_n0 c2) hF
      refine lv_aload_n hx hb dX8_uncut_19 rfl (lv_at hl 0 rfl) ?_
      refine va_get (ci := 4) (C := RX8) (T := TX8) (N := 7) (v := .ref (gA G 18)) hx hb hts inX8 hown hK.1 hP 0 (at_4 rfl) rfl 1 (by decide) w1 (fun _ h9 => h9) rfl dX8_uncut_20 ?_
      obtain ⟨q3, h4, hF⟩ := ob_some hF
      refine k_VN0 (As := []) (rest := []) Z hK hP hS (t_X0_print l G hG σ _ h4) ⟨va_cnB 0 hts gX8_uncut_X0_print_n157 rfl rfl rfl w3n w2 (by decide +kernel) ⟨Nat.le_of_ble_eq_true rfl, Nat.le_of_ble_eq_true rfl⟩, w4, w5⟩ (at_0 (rfl : kd 18 = 0)) rfl rfl hl.1 rfl (Nat.le_of_ble_eq_true rfl) ⟨Nat.zero_le _, Nat.zero_le _⟩ dX8_uncut_23 (fun H locs hP hS => ?_)
      refine lv_aload_n hx hb dX8_uncut_26 rfl (lv_at hl 0 rfl) ?_
      refine va_get (ci := 4) (C := RX8) (T := TX8) (N := 7) (v := .ref (gA G 18)) hx hb hts inX8 hown hK.1 hP 0 (at_4 rfl) rfl 1 (by decide) w1 (fun _ h9 => h9) rfl dX8_uncut_27 ?_
      refine va_getN (ci := 0) (C := RX0) (T := TX0) (N := 5) (v := .int (q3 18 4)) hx hb hts inX0 hown hK.1 hP 18 (at_0 (rfl : kd 18 = 0)) rfl 4 (by decide) w6 (fun _ h9 => h9) rfl dX8_uncut_30 ?_
      refine lv_iload_n hx hb dX8_uncut_33 rfl (lv_at hl 1 rfl) ?_
      refine lv_isub hx hb dX8_uncut_34 ?_
      refine lv_istore_n (lv' := [(3, .int ((q3 18 4) - x1)), (0, .ref (gA G 0)), (1, .int x1), (2, .int x2)]) hx hb dX8_uncut_35 rfl hl (by decide) rfl (fun ls hl => ?_)
      refine lv_iload_n hx hb dX8_uncut_36 rfl (lv_at hl 3 rfl) ?_
      refine lv_if_ne (tgt := 51) hx hb dX8_uncut_37 (by decide) (fun c5 => ?_) (fun c5 => ?_)
      · have hF := ite_f c5 hF
        refine lv_bipush (v := 31) hx hb dX8_uncut_51 (by decide) ?_
        refine lv_aload_n hx hb dX8_uncut_53 rfl (lv_at hl 1 rfl) ?_
        refine va_get (ci := 4) (C := RX8) (T := TX8) (N := 7) (v := .ref (gA G 18)) hx hb hts inX8 hown hK.1 hP 0 (at_4 rfl) rfl 1 (by decide) w1 (fun _ h9 => h9) rfl dX8_uncut_54 ?_
        refine lv_iload_n hx hb dX8_uncut_57 rfl (lv_at hl 0 rfl) ?_
        obtain ⟨q6, h7, hF⟩ := ob_some hF
        refine k_VNv (As := [.int ((q3 18 4) - x1)]) (rest := [.int (31 : Int32)]) Z hK hP hS (t_X0_doersAheadOfPage l G hG ((q3 18 4) - x1) q3 _ h7) ⟨va_cnB 1 hts gX8_uncut_X0_doersAheadOfPage_n178 rfl rfl rfl w7n w2 (by decide +kernel) ⟨Nat.le_of_ble_eq_true rfl, Nat.le_of_ble_eq_true rfl⟩, w8, w9⟩ (at_0 (rfl : kd 18 = 0)) rfl rfl hl.1 rfl (Nat.le_of_ble_eq_true rfl) ⟨Nat.zero_le _, Nat.zero_le _⟩ dX8_uncut_58 (fun H locs hP hS => ?_)
        refine lv_iconst (v := -1) hx hb dX8_uncut_61 (by decide) ?_
        refine lv_ixor hx hb dX8_uncut_62 ?_
        refine lv_iand hx hb dX8_uncut_63 ?_
        exact e_iS hx hb hr hP hS hlocks dX8_uncut_64 hF
      · have hF := ite_t c5 hF
        refine lv_aload_n hx hb dX8_uncut_40 rfl (lv_at hl 1 rfl) ?_
        refine va_get (ci := 4) (C := RX8) (T := TX8) (N := 7) (v := .ref (gA G 18)) hx hb hts inX8 hown hK.1 hP 0 (at_4 rfl) rfl 1 (by decide) w1 (fun _ h9 => h9) rfl dX8_uncut_41 ?_
        refine lv_iload_n hx hb dX8_uncut_44 rfl (lv_at hl 0 rfl) ?_
        obtain ⟨q8, h9, hF⟩ := ob_some hF
        refine k_VNv (As := [.int ((q3 18 4) - x1)]) (rest := []) Z hK hP hS (t_X0_deedsFromPage l G hG ((q3 18 4) - x1) q3 _ h9) ⟨va_cnB 1 hts gX8_uncut_X0_deedsFromPage_n175 rfl rfl rfl w10n w2 (by decide +kernel) ⟨Nat.le_of_ble_eq_true rfl, Nat.le_of_ble_eq_true rfl⟩, w11, w12⟩ (at_0 (rfl : kd 18 = 0)) rfl rfl hl.1 rfl (Nat.le_of_ble_eq_true rfl) ⟨Nat.zero_le _, Nat.zero_le _⟩ dX8_uncut_45 (fun H locs hP hS => ?_)
        refine lv_goto (tgt := 64) hx hb dX8_uncut_48 (by decide) ?_
        exact e_iS hx hb hr hP hS hlocks dX8_uncut_64 hF
    · have hF := ite_f (b2i_e0 c2) hF
      refine lv_iconst (v := -1) hx hb dX8_uncut_17 (by decide) ?_
      exact e_iS hx hb hr hP hS hlocks dX8_uncut_18 hF
def f_X8_guilty (x1 : Int32) (σ : St) : Option (Int32 × St) := (if x1 < (-30 : Int32) then (some ((-1 : Int32), σ)) else (if x1 ≤ (99 : Int32) then (ob (f_X7_weighBurdens 21 σ) (fun q3 => ob (f_X7_burdenedWith 21 x1 q3) (fun q5 => some (q5, q3)))) else (some ((-1 : Int32), σ))))
set_option maxRecDepth 100000 in
set_option maxHeartbeats 4000000 in
theorem t_X8_guilty (l : Launch) (G : GT) (hG : Dw G) (x1 : Int32) (σ : St) (o : Int32 × St) (hF : f_X8_guilty x1 σ = some o) : Ct l G yX8_guilty wsX8_guilty 3 66 [.ref (gA G 0), .int x1] σ (some (.int o.1)) o.2 := by
  refine Met.ofW (cc := cX8_guilty) (maxL := 2) (ret := (some .int)) (by decide) rfl ?_
  intro p e s m args below meth c s₁ B hml hv
  obtain ⟨rfl, hP, hK⟩ := hv
  have hx := B.exec
  have hb := B.bytes
  have hr := B.returns
  have hts := atoms_spec (ws := wsX8_guilty) B.pre
  have hown : s.vm.findClass RX8 = some m.cls := findClass_of_methodNamed B.named
  have hlocks := B.notSynchronized
  have Z : CallFix p m c cX8_guilty 2 s _ wsX8_guilty RX8 := ⟨hx, hb, hml, hown, hts⟩
  have hS : va_S (AG G) s.heap s.heap [] := va_S.rf
  have inX8 : ∀ w ∈ u_ws RX8 TX8 7, w ∈ wsX8_guilty := by decide +kernel
  have w1 := hts (.fieldLink RX8 27 "AlmanacOfTheYearGone" "now" "LAlmanacOfTheYearGone$Year;") (by decide +kernel)
  have w2 := hts (.initialized RX7) (by decide +kernel)
  have w3n : va_Nw (.methodLinkNest "AlmanacOfTheYearGone" 181 ⟨"AlmanacOfTheYearGone$Year", "weighBurdens", "()V"⟩ "AlmanacOfTheYearGone") s := hK.2 _ (List.mem_of_getElem? (i := 78) rfl)
  have w3 := va_Nw.use (A := [.ref (gA G 0), .int x1].toArray) rfl w3n
  have w4 := hts (.instanceMethod yX7_weighBurdens) (by decide +kernel)
  have w5 := hts (.selects RX7 yX7_weighBurdens yX7_weighBurdens) (by decide +kernel)
  have w6n : va_Nw (.methodLinkNest "AlmanacOfTheYearGone" 184 ⟨"AlmanacOfTheYearGone$Year", "burdenedWith", "(I)I"⟩ "AlmanacOfTheYearGone") s := hK.2 _ (List.mem_of_getElem? (i := 81) rfl)
  have w6 := va_Nw.use (A := [.ref (gA G 0), .int x1].toArray) rfl w6n
  have w7 := hts (.instanceMethod yX7_burdenedWith) (by decide +kernel)
  have w8 := hts (.selects RX7 yX7_burdenedWith yX7_burdenedWith) (by decide +kernel)
  have hl := lv_entry ([.ref (gA G 0), .int x1]) (n := 2) (Nat.le_of_ble_eq_true rfl)
  rw [lg_entry_eq]
  generalize (lg_sl ([.ref (gA G 0), .int x1]) ++ List.replicate (2 - (lg_sl ([.ref (gA G 0), .int x1])).length) Slot.unset).toArray = ls at hl ⊢
  have hl : lv_has ls 2 [(0, .ref (gA G 0)), (1, .int x1)] := hl
  unfold f_X8_guilty at hF
  refine lv_iload_n hx hb dX8_guilty_0 rfl (lv_at hl 1 rfl) ?_
  refine lv_bipush (v := -30) hx hb dX8_guilty_1 (by decide) ?_
  refine lv_icmp_lt (tgt := 12) hx hb dX8_guilty_3 (by decide) (fun c1 => ?_) (fun c1 => ?_)
  · have hF := ite_t c1 hF
    refine lv_iconst (v := -1) hx hb dX8_guilty_12 (by decide) ?_
    exact e_iS hx hb hr hP hS hlocks dX8_guilty_13 hF
  · have hF := ite_f c1 hF
    refine lv_iload_n hx hb dX8_guilty_6 rfl (lv_at hl 1 rfl) ?_
    refine lv_bipush (v := 99) hx hb dX8_guilty_7 (by decide) ?_
    refine lv_icmp_le (tgt := 14) hx hb dX8_guilty_9 (by decide) (fun c2 => ?_) (fun c2 => ?_)
    · have hF := ite_t c2 hF
      refine lv_aload_n hx hb dX8_guilty_14 rfl (lv_at hl 0 rfl) ?_
      refine va_get (ci := 4) (C := RX8) (T := TX8) (N := 7) (v := .ref (gA G 21)) hx hb hts inX8 hown hK.1 hP 0 (at_4 rfl) rfl 2 (by decide) w1 (fun _ h9 => h9) rfl dX8_guilty_15 ?_
      obtain ⟨q3, h4, hF⟩ := ob_some hF
      refine k_VN0 (As := []) (rest := []) Z hK hP hS (t_X7_weighBurdens l G hG 21 (rfl : kd 21 = 3) σ _ h4) ⟨va_cnB 0 hts gX8_guilty_X7_weighBurdens_n181 rfl rfl rfl w3n w2 (by decide +kernel) ⟨Nat.le_of_ble_eq_true rfl, Nat.le_of_ble_eq_true rfl⟩, w4, w5⟩ (at_3 (rfl : kd 21 = 3)) rfl rfl hl.1 rfl (Nat.le_of_ble_eq_true rfl) ⟨Nat.zero_le _, Nat.zero_le _⟩ dX8_guilty_18 (fun H locs hP hS => ?_)
      refine lv_aload_n hx hb dX8_guilty_21 rfl (lv_at hl 0 rfl) ?_
      refine va_get (ci := 4) (C := RX8) (T := TX8) (N := 7) (v := .ref (gA G 21)) hx hb hts inX8 hown hK.1 hP 0 (at_4 rfl) rfl 2 (by decide) w1 (fun _ h9 => h9) rfl dX8_guilty_22 ?_
      refine lv_iload_n hx hb dX8_guilty_25 rfl (lv_at hl 1 rfl) ?_
      obtain ⟨q5, h6, hF⟩ := ob_some hF
      refine k_VNv (As := [.int x1]) (rest := []) Z hK hP hS (t_X7_burdenedWith l G hG 21 x1 (rfl : kd 21 = 3) q3 _ h6) ⟨va_cnB 1 hts gX8_guilty_X7_burdenedWith_n184 rfl rfl rfl w6n w2 (by decide +kernel) ⟨Nat.le_of_ble_eq_true rfl, Nat.le_of_ble_eq_true rfl⟩, w7, w8⟩ (at_3 (rfl : kd 21 = 3)) rfl rfl hl.1 rfl (Nat.le_of_ble_eq_true rfl) ⟨Nat.zero_le _, Nat.zero_le _⟩ dX8_guilty_26 (fun H locs hP hS => ?_)
      exact e_iS hx hb hr hP hS hlocks dX8_guilty_29 hF
    · have hF := ite_f c2 hF
      refine lv_iconst (v := -1) hx hb dX8_guilty_12 (by decide) ?_
      exact e_iS hx hb hr hP hS hlocks dX8_guilty_13 hF
def f_X8_price_60 (x1 : Int32) (rec24 : Int32 → Int32 → Int32 → St → Option (Int32 × St)) (v2 : Int32) (v3 : Int32) (v4 : Int32) (τ : St) : Option (Int32 × St) := (rec24 v2 v3 (v4 + (1 : Int32)) τ)
theorem f_X8_price_60_e {x1 : Int32} {rec24 : Int32 → Int32 → Int32 → St → Option (Int32 × St)} {v2 : Int32} {v3 : Int32} {v4 : Int32} {τ : St} : f_X8_price_60 x1 rec24 v2 v3 v4 τ = (rec24 v2 v3 (v4 + (1 : Int32)) τ) := rfl
def f_X8_price_24 (x1 : Int32) : Nat → (Int32 → Int32 → Int32 → St → Option (Int32 × St))
  | 0 => fun _ _ _ _ => none
  | fl + 1 => fun v2 v3 v4 τ => (if (99 : Int32) < v4 then (if x1 = 0 then (some (v2, τ)) else (some (v3, τ))) else (ob (f_X7_burdenedWith 21 v4 τ) (fun q6 => if (v4 * (f_J6_bitCount_0f7a4 q6)) ≤ v3 then f_X8_price_60 x1 (f_X8_price_24 x1 fl) v2 v3 v4 τ else (f_X8_price_60 x1 (f_X8_price_24 x1 fl) v4 (v4 * (f_J6_bitCount_0f7a4 q6)) v4 τ))))
theorem f_X8_price_24_s {x1 : Int32} (fl : Nat) {v2 : Int32} {v3 : Int32} {v4 : Int32} {τ : St} : f_X8_price_24 x1 (fl + 1) v2 v3 v4 τ = (if (99 : Int32) < v4 then (if x1 = 0 then (some (v2, τ)) else (some (v3, τ))) else (ob (f_X7_burdenedWith 21 v4 τ) (fun q6 => if (v4 * (f_J6_bitCount_0f7a4 q6)) ≤ v3 then f_X8_price_60 x1 (f_X8_price_24 x1 fl) v2 v3 v4 τ else (f_X8_price_60 x1 (f_X8_price_24 x1 fl) v4 (v4 * (f_J6_bitCount_0f7a4 q6)) v4 τ)))) := rfl
def f_X8_price (x1 : Int32) (σ : St) : Option (Int32 × St) := (if (f_X8_isBelow x1 (2 : Int32)) = true then (ob (f_X7_weighBurdens 21 σ) (fun q2 => f_X8_price_24 x1 fu (1 : Int32) (0 : Int32) (1 : Int32) q2)) else (some ((-1 : Int32), σ)))
set_option maxRecDepth 100000 in
set_option maxHeartbeats 4000000 in
theorem t_X8_price (l : Launch) (G : GT) (hG : Dw G) (x1 : Int32) (σ : St) (o : Int32 × St) (hF : f_X8_price x1 σ = some o) : Ct l G yX8_price wsX8_price 3 66 [.ref (gA G 0), .int x1] σ (some (.int o.1)) o.2 := by
  refine Met.ofW (cc := cX8_price) (maxL := 6) (ret := (some .int)) (by decide) rfl ?_
  intro p e s m args below meth c s₁ B hml hv
  obtain ⟨rfl, hP, hK⟩ := hv
  have hx := B.exec
  have hb := B.bytes
  have hr := B.returns
  have hts := atoms_spec (ws := wsX8_price) B.pre
  have hown : s.vm.findClass RX8 = some m.cls := findClass_of_methodNamed B.named
  have hlocks := B.notSynchronized
  have Z : CallFix p m c cX8_price 6 s _ wsX8_price RX8 := ⟨hx, hb, hml, hown, hts⟩
  have hS : va_S (AG G) s.heap s.heap [] := va_S.rf
  have inX8 : ∀ w ∈ u_ws RX8 TX8 7, w ∈ wsX8_price := by decide +kernel
  have w1 := hts (.fieldLink RX8 27 "AlmanacOfTheYearGone" "now" "LAlmanacOfTheYearGone$Year;") (by decide +kernel)
  have w2 := hts (.initialized RX7) (by decide +kernel)
  have w3n : va_Nw (.methodLinkNest "AlmanacOfTheYearGone" 181 ⟨"AlmanacOfTheYearGone$Year", "weighBurdens", "()V"⟩ "AlmanacOfTheYearGone") s := hK.2 _ (List.mem_of_getElem? (i := 78) rfl)
  have w3 := va_Nw.use (A := [.ref (gA G 0), .int x1].toArray) rfl w3n
  have w4 := hts (.instanceMethod yX7_weighBurdens) (by decide +kernel)
  have w5 := hts (.selects RX7 yX7_weighBurdens yX7_weighBurdens) (by decide +kernel)
  have w6n : va_Nw (.methodLinkNest "AlmanacOfTheYearGone" 184 ⟨"AlmanacOfTheYearGone$Year", "burdenedWith", "(I)I"⟩ "AlmanacOfTheYearGone") s := hK.2 _ (List.mem_of_getElem? (i := 81) rfl)
  have w6 := va_Nw.use (A := [.ref (gA G 0), .int x1].toArray) rfl w6n
  have w7 := hts (.instanceMethod yX7_burdenedWith) (by decide +kernel)
  have w8 := hts (.selects RX7 yX7_burdenedWith yX7_burdenedWith) (by decide +kernel)
  have hl := lv_entry ([.ref (gA G 0), .int x1]) (n := 6) (Nat.le_of_ble_eq_true rfl)
  rw [lg_entry_eq]
  generalize (lg_sl ([.ref (gA G 0), .int x1]) ++ List.replicate (6 - (lg_sl ([.ref (gA G 0), .int x1])).length) Slot.unset).toArray = ls at hl ⊢
  have hl : lv_has ls 6 [(0, .ref (gA G 0)), (1, .int x1)] := hl
  unfold f_X8_price at hF
  refine lv_iload_n hx hb dX8_price_0 rfl (lv_at hl 1 rfl) ?_
  refine lv_iconst (v := 2) hx hb dX8_price_1 (by decide) ?_
  refine k_Sv (As := [.int x1, .int (2 : Int32)]) (rest := []) Z hK hP hS (t_X8_isBelow l G hG x1 (2 : Int32) σ) (va_cwS 2 hts gX8_price_X8_isBelow rfl rfl rfl (by decide +kernel) ⟨Nat.le_of_ble_eq_true rfl, Nat.le_of_ble_eq_true rfl⟩) rfl hl.1 rfl (Nat.le_of_ble_eq_true rfl) ⟨Nat.zero_le _, Nat.zero_le _⟩ dX8_price_2 (fun H locs hP hS => ?_)
  refine lv_if_ne (tgt := 10) hx hb dX8_price_5 (by decide) (fun c1 => ?_) (fun c1 => ?_)
  · have hF := ite_t (b2i_n0 c1) hF
    refine lv_aload_n hx hb dX8_price_10 rfl (lv_at hl 0 rfl) ?_
    refine va_get (ci := 4) (C := RX8) (T := TX8) (N := 7) (v := .ref (gA G 21)) hx hb hts inX8 hown hK.1 hP 0 (at_4 rfl) rfl 2 (by decide) w1 (fun _ h9 => h9) rfl dX8_price_11 ?_
    obtain ⟨q2, h3, hF⟩ := ob_some hF
    refine k_VN0 (As := []) (rest := []) Z hK hP hS (t_X7_weighBurdens l G hG 21 (rfl : kd 21 = 3) σ _ h3) ⟨va_cnB 0 hts gX8_price_X7_weighBurdens_n181 rfl rfl rfl w3n w2 (by decide +kernel) ⟨Nat.le_of_ble_eq_true rfl, Nat.le_of_ble_eq_true rfl⟩, w4, w5⟩ (at_3 (rfl : kd 21 = 3)) rfl rfl hl.1 rfl (Nat.le_of_ble_eq_true rfl) ⟨Nat.zero_le _, Nat.zero_le _⟩ dX8_price_14 (fun H locs hP hS => ?_)
    refine lv_iconst (v := 1) hx hb dX8_price_17 (by decide) ?_
    refine lv_istore_n (lv' := [(2, .int (1 : Int32)), (0, .ref (gA G 0)), (1, .int x1)]) hx hb dX8_price_18 rfl hl (by decide) rfl (fun ls hl => ?_)
    refine lv_iconst (v := 0) hx hb dX8_price_19 (by decide) ?_
    refine lv_istore_n (lv' := [(3, .int (0 : Int32)), (2, .int (1 : Int32)), (0, .ref (gA G 0)), (1, .int x1)]) hx hb dX8_price_20 rfl hl (by decide) rfl (fun ls hl => ?_)
    refine lv_iconst (v := 1) hx hb dX8_price_21 (by decide) ?_
    have J24 : ∀ (fl : Nat) (v2 : Int32) (v3 : Int32) (v4 : Int32) (τ : St) (H : Heap) (locs : List Loc) (hP : Pw G τ H) (hS : va_S (AG G) s.heap H locs) (ls : Array Slot) (hl : lv_has ls 6 [(0, .ref (gA G 0)), (1, .int x1), (2, .int v2), (3, .int v3), (4, .int v4)]) (hF : f_X8_price_24 x1 fl v2 v3 v4 τ = some o), W p l e (headSpec wsX8_price ({ frames := 3, cells := 0, slots := 0, locals := 66 })).room s m ([.ref (gA G 0), .int x1] : List Value).toArray below meth c H locs 0 0 (MQ below (qR G (some (.int o.1)) o.2) ([.ref (gA G 0), .int x1] : List Value).toArray s 0 0 (AG G)) (F0 m 24 ls []) := by
      intro fl24
      induction fl24 with
      | zero => intro v2 v3 v4 τ H locs hP hS ls hl hF; cases hF
      | succ fl24 ih24 =>
        intro v2 v3 v4 τ H locs hP hS ls hl hF
        rw [f_X8_price_24_s] at hF
        refine lv_iload hx hb dX8_price_24 (lv_at hl 4 rfl) ?_
        refine lv_bipush (v := 99) hx hb dX8_price_26 (by decide) ?_
        refine lv_icmp_gt (tgt := 66) hx hb dX8_price_28 (by decide) (fun c4 => ?_) (fun c4 => ?_)
        · have hF := ite_t c4 hF
          refine lv_iload_n hx hb dX8_price_66 rfl (lv_at hl 1 rfl) ?_
          refine lv_if_ne (tgt := 74) hx hb dX8_price_67 (by decide) (fun c5 => ?_) (fun c5 => ?_)
          · have hF := ite_f c5 hF
            refine lv_iload_n hx hb dX8_price_74 rfl (lv_at hl 3 rfl) ?_
            exact e_iS hx hb hr hP hS hlocks dX8_price_75 hF
          · have hF := ite_t c5 hF
            refine lv_iload_n hx hb dX8_price_70 rfl (lv_at hl 2 rfl) ?_
            refine lv_goto (tgt := 75) hx hb dX8_price_71 (by decide) ?_
            exact e_iS hx hb hr hP hS hlocks dX8_price_75 hF
        · have hF := ite_f c4 hF
          refine lv_iload hx hb dX8_price_31 (lv_at hl 4 rfl) ?_
          refine lv_aload_n hx hb dX8_price_33 rfl (lv_at hl 0 rfl) ?_
          refine va_get (ci := 4) (C := RX8) (T := TX8) (N := 7) (v := .ref (gA G 21)) hx hb hts inX8 hown hK.1 hP 0 (at_4 rfl) rfl 2 (by decide) w1 (fun _ h9 => h9) rfl dX8_price_34 ?_
          refine lv_iload hx hb dX8_price_37 (lv_at hl 4 rfl) ?_
          obtain ⟨q6, h7, hF⟩ := ob_some hF
          refine k_VNv (As := [.int v4]) (rest := [.int v4]) Z hK hP hS (t_X7_burdenedWith l G hG 21 v4 (rfl : kd 21 = 3) τ _ h7) ⟨va_cnB 1 hts gX8_price_X7_burdenedWith_n184 rfl rfl rfl w6n w2 (by decide +kernel) ⟨Nat.le_of_ble_eq_true rfl, Nat.le_of_ble_eq_true rfl⟩, w7, w8⟩ (at_3 (rfl : kd 21 = 3)) rfl rfl hl.1 rfl (Nat.le_of_ble_eq_true rfl) ⟨Nat.zero_le _, Nat.zero_le _⟩ dX8_price_39 (fun H locs hP hS => ?_)
          refine k_Sv (As := [.int q6]) (rest := [.int v4]) Z hK hP hS (t_J6_bitCount_0f7a4 l G hG q6 τ) (va_cwS 1 hts gX8_price_J6_bitCount_0f7a4 rfl rfl rfl (by decide +kernel) ⟨Nat.le_of_ble_eq_true rfl, Nat.le_of_ble_eq_true rfl⟩) rfl hl.1 rfl (Nat.le_of_ble_eq_true rfl) ⟨Nat.zero_le _, Nat.zero_le _⟩ dX8_price_42 (fun H locs hP hS => ?_)
          refine lv_imul hx hb dX8_price_45 ?_
          refine lv_istore (lv' := [(5, .int (v4 * (f_J6_bitCount_0f7a4 q6))), (0, .ref (gA G 0)), (1, .int x1), (2, .int v2), (3, .int v3), (4, .int v4)]) hx hb dX8_price_46 hl (by decide) rfl (fun ls hl => ?_)
          refine lv_iload hx hb dX8_price_48 (lv_at hl 0 rfl) ?_
          refine lv_iload_n hx hb dX8_price_50 rfl (lv_at hl 4 rfl) ?_
          have J60 : ∀ (v2 : Int32) (v3 : Int32) (v4 : Int32) (τ : St) (H : Heap) (locs : List Loc) (hP : Pw G τ H) (hS : va_S (AG G) s.heap H locs) (ls : Array Slot) (hl : lv_has ls 6 [(0, .ref (gA G 0)), (1, .int x1), (2, .int v2), (3, .int v3), (4, .int v4)]) (hF : f_X8_price_60 x1 (f_X8_price_24 x1 fl24) v2 v3 v4 τ = some o), W p l e (headSpec wsX8_price ({ frames := 3, cells := 0, slots := 0, locals := 66 })).room s m ([.ref (gA G 0), .int x1] : List Value).toArray below meth c H locs 0 0 (MQ below (qR G (some (.int o.1)) o.2) ([.ref (gA G 0), .int x1] : List Value).toArray s 0 0 (AG G)) (F0 m 60 ls []) := by
            intro v2 v3 v4 τ H locs hP hS ls hl hF
            rw [f_X8_price_60_e] at hF
            refine lv_iinc (v := (v4 + (1 : Int32))) (lv' := [(4, .int (v4 + (1 : Int32))), (0, .ref (gA G 0)), (1, .int x1), (2, .int v2), (3, .int v3)]) hx hb dX8_price_60 hl (k := 4) rfl rfl (by decide) rfl (fun ls hl => ?_)
            refine lv_goto (tgt := 24) hx hb dX8_price_63 (by decide) ?_
            exact ih24 v2 v3 (v4 + (1 : Int32)) τ _ _ hP hS ls (lv_sub hl [1, 2, 3, 4, 0] rfl) hF
          refine lv_icmp_le (tgt := 60) hx hb dX8_price_51 (by decide) (fun c8 => ?_) (fun c8 => ?_)
          · have hF := ite_t c8 hF
            exact J60 v2 v3 v4 τ _ _ hP hS ls (lv_sub hl [1, 2, 3, 4, 5] rfl) hF
          · have hF := ite_f c8 hF
            refine lv_iload hx hb dX8_price_54 (lv_at hl 0 rfl) ?_
            refine lv_istore_n (lv' := [(3, .int (v4 * (f_J6_bitCount_0f7a4 q6))), (5, .int (v4 * (f_J6_bitCount_0f7a4 q6))), (0, .ref (gA G 0)), (1, .int x1), (2, .int v2), (4, .int v4)]) hx hb dX8_price_56 rfl hl (by decide) rfl (fun ls hl => ?_)
            refine lv_iload hx hb dX8_price_57 (lv_at hl 5 rfl) ?_
            refine lv_istore_n (lv' := [(2, .int v4), (3, .int (v4 * (f_J6_bitCount_0f7a4 q6))), (5, .int (v4 * (f_J6_bitCount_0f7a4 q6))), (0, .ref (gA G 0)), (1, .int x1), (4, .int v4)]) hx hb dX8_price_59 rfl hl (by decide) rfl (fun ls hl => ?_)
            exact J60 v4 (v4 * (f_J6_bitCount_0f7a4 q6)) v4 τ _ _ hP hS ls (lv_sub hl [3, 4, 0, 1, 5] rfl) hF
    refine lv_istore (lv' := [(4, .int (1 : Int32)), (3, .int (0 : Int32)), (2, .int (1 : Int32)), (0, .ref (gA G 0)), (1, .int x1)]) hx hb dX8_price_22 hl (by decide) rfl (fun ls hl => ?_)
    exact J24 fu (1 : Int32) (0 : Int32) (1 : Int32) q2 _ _ hP hS ls (lv_sub hl [3, 4, 2, 1, 0] rfl) hF
  · have hF := ite_f (b2i_e0 c1) hF
    refine lv_iconst (v := -1) hx hb dX8_price_8 (by decide) ?_
    exact e_iS hx hb hr hP hS hlocks dX8_price_9 hF
def f_X8_diaryRefusal (q1 : Option Nat) (σ : St) : Option Int32 := oc q1 ((some (f_X8_rowRefusal none σ))) (fun i1 => (if (f_X8_rowRefusal (some i1) σ) = 0 then (ob (f_X2_isWhole i1 21 σ) (fun q2 => if q2 = true then (some (0 : Int32)) else (some (-13 : Int32)))) else (some (f_X8_rowRefusal (some i1) σ))))
set_option maxRecDepth 100000 in
set_option maxHeartbeats 4000000 in
theorem t_X8_diaryRefusal (l : Launch) (G : GT) (hG : Dw G) (q1 : Option Nat) (hk1 : ∀ i, q1 = some i → kd i = 2) (σ : St) (o : Int32) (hF : f_X8_diaryRefusal q1 σ = some o) : Ct l G yX8_diaryRefusal wsX8_diaryRefusal 3 61 [.ref (gA G 0), oref G q1] σ (some (.int o)) σ := by
  rcases q1 with _ | i1
  · change Ct l G yX8_diaryRefusal wsX8_diaryRefusal 3 61 [.ref (gA G 0), .null] σ (some (.int o)) σ
    refine Met.ofW (cc := cX8_diaryRefusal) (maxL := 3) (ret := (some .int)) (by decide) rfl ?_
    intro p e s m args below meth c s₁ B hml hv
    obtain ⟨rfl, hP, hK⟩ := hv
    have hx := B.exec
    have hb := B.bytes
    have hr := B.returns
    have hts := atoms_spec (ws := wsX8_diaryRefusal) B.pre
    have hown : s.vm.findClass RX8 = some m.cls := findClass_of_methodNamed B.named
    have hlocks := B.notSynchronized
    have Z : CallFix p m c cX8_diaryRefusal 3 s _ wsX8_diaryRefusal RX8 := ⟨hx, hb, hml, hown, hts⟩
    have hS : va_S (AG G) s.heap s.heap [] := va_S.rf
    have inX8 : ∀ w ∈ u_ws RX8 TX8 7, w ∈ wsX8_diaryRefusal := by decide +kernel
    have w1 := hts (.fieldLink RX8 27 "AlmanacOfTheYearGone" "now" "LAlmanacOfTheYearGone$Year;") (by decide +kernel)
    have w2 := hts (.initialized RX2) (by decide +kernel)
    have w3n : va_Nw (.methodLinkNest "AlmanacOfTheYearGone" 351 ⟨"AlmanacOfTheYearGone$Diary", "isWhole", "(LAlmanacOfTheYearGone$Shelf;LAlmanacOfTheYearGone$Year;)Z"⟩ "AlmanacOfTheYearGone") s := hK.2 _ (List.mem_of_getElem? (i := 82) rfl)
    have w3 := va_Nw.use (A := [.ref (gA G 0), .null].toArray) rfl w3n
    have w4 := hts (.static yX2_isWhole) (by decide +kernel)
    have hl := lv_entry ([.ref (gA G 0), .null]) (n := 3) (Nat.le_of_ble_eq_true rfl)
    rw [lg_entry_eq]
    generalize (lg_sl ([.ref (gA G 0), .null]) ++ List.replicate (3 - (lg_sl ([.ref (gA G 0), .null])).length) Slot.unset).toArray = ls at hl ⊢
    unfold f_X8_diaryRefusal at hF
    have hF := oc_n hF
    have hl : lv_has ls 3 [(0, .ref (gA G 0)), (1, .null)] := hl
    refine lv_aload_nN hx hb dX8_diaryRefusal_0 rfl (lv_at hl 1 rfl) ?_
    refine k_Sv (As := [.null]) (rest := []) Z hK hP hS (t_X8_rowRefusal l G hG none (fun _ h9 => by cases h9) σ) (va_cwS 1 hts gX8_diaryRefusal_X8_rowRefusal rfl rfl rfl (by decide +kernel) ⟨Nat.le_of_ble_eq_true rfl, Nat.le_of_ble_eq_true rfl⟩) rfl hl.1 rfl (Nat.le_of_ble_eq_true rfl) ⟨Nat.zero_le _, Nat.zero_le _⟩ dX8_diaryRefusal_1 (fun H locs hP hS => ?_)
    refine lv_istore_n (lv' := [(2, .int (f_X8_rowRefusal none σ)), (0, .ref (gA G 0)), (1, .null)]) hx hb dX8_diaryRefusal_4 rfl hl (by decide) rfl (fun ls hl => ?_)
    refine lv_aload_nN hx hb dX8_diaryRefusal_5 rfl (lv_at hl 2 rfl) ?_
    refine lv_ifnullN (tgt := 13) hx hb dX8_diaryRefusal_6 (by decide) ?_
    refine lv_iload_n hx hb dX8_diaryRefusal_13 rfl (lv_at hl 0 rfl) ?_
    exact e_iP hx hb hr hP hS hlocks dX8_diaryRefusal_14 hF
  · change Ct l G yX8_diaryRefusal wsX8_diaryRefusal 3 61 [.ref (gA G 0), .ref (gA G i1)] σ (some (.int o)) σ
    refine Met.ofW (cc := cX8_diaryRefusal) (maxL := 3) (ret := (some .int)) (by decide) rfl ?_
    intro p e s m args below meth c s₁ B hml hv
    obtain ⟨rfl, hP, hK⟩ := hv
    have hx := B.exec
    have hb := B.bytes
    have hr := B.returns
    have hts := atoms_spec (ws := wsX8_diaryRefusal) B.pre
    have hown : s.vm.findClass RX8 = some m.cls := findClass_of_methodNamed B.named
    have hlocks := B.notSynchronized
    have Z : CallFix p m c cX8_diaryRefusal 3 s _ wsX8_diaryRefusal RX8 := ⟨hx, hb, hml, hown, hts⟩
    have hS : va_S (AG G) s.heap s.heap [] := va_S.rf
    have inX8 : ∀ w ∈ u_ws RX8 TX8 7, w ∈ wsX8_diaryRefusal := by decide +kernel
    have w1 := hts (.fieldLink RX8 27 "AlmanacOfTheYearGone" "now" "LAlmanacOfTheYearGone$Year;") (by decide +kernel)
    have w2 := hts (.initialized RX2) (by decide +kernel)
    have w3n : va_Nw (.methodLinkNest "AlmanacOfTheYearGone" 351 ⟨"AlmanacOfTheYearGone$Diary", "isWhole", "(LAlmanacOfTheYearGone$Shelf;LAlmanacOfTheYearGone$Year;)Z"⟩ "AlmanacOfTheYearGone") s := hK.2 _ (List.mem_of_getElem? (i := 82) rfl)
    have w3 := va_Nw.use (A := [.ref (gA G 0), .ref (gA G i1)].toArray) rfl w3n
    have w4 := hts (.static yX2_isWhole) (by decide +kernel)
    have hl := lv_entry ([.ref (gA G 0), .ref (gA G i1)]) (n := 3) (Nat.le_of_ble_eq_true rfl)
    rw [lg_entry_eq]
    generalize (lg_sl ([.ref (gA G 0), .ref (gA G i1)]) ++ List.replicate (3 - (lg_sl ([.ref (gA G 0), .ref (gA G i1)])).length) Slot.unset).toArray = ls at hl ⊢
    unfold f_X8_diaryRefusal at hF
    have hF := oc_s hF
    have hk1 := hk1 i1 rfl
    have hl : lv_has ls 3 [(0, .ref (gA G 0)), (1, .ref (gA G i1))] := hl
    refine lv_aload_n hx hb dX8_diaryRefusal_0 rfl (lv_at hl 1 rfl) ?_
    refine k_Sv (As := [.ref (gA G i1)]) (rest := []) Z hK hP hS (t_X8_rowRefusal l G hG (some i1) (fun _ h9 => by cases h9; exact hk1) σ) (va_cwS 1 hts gX8_diaryRefusal_X8_rowRefusal rfl rfl rfl (by decide +kernel) ⟨Nat.le_of_ble_eq_true rfl, Nat.le_of_ble_eq_true rfl⟩) rfl hl.1 rfl (Nat.le_of_ble_eq_true rfl) ⟨Nat.zero_le _, Nat.zero_le _⟩ dX8_diaryRefusal_1 (fun H locs hP hS => ?_)
    refine lv_istore_n (lv' := [(2, .int (f_X8_rowRefusal (some i1) σ)), (0, .ref (gA G 0)), (1, .ref (gA G i1))]) hx hb dX8_diaryRefusal_4 rfl hl (by decide) rfl (fun ls hl => ?_)
    refine lv_aload_n hx hb dX8_diaryRefusal_5 rfl (lv_at hl 2 rfl) ?_
    refine lv_ifnull hx hb dX8_diaryRefusal_6 ?_
    refine lv_iload_n hx hb dX8_diaryRefusal_9 rfl (lv_at hl 0 rfl) ?_
    refine lv_if_eq (tgt := 15) hx hb dX8_diaryRefusal_10 (by decide) (fun c1 => ?_) (fun c1 => ?_)
    · have hF := ite_t c1 hF
      refine lv_aload_n hx hb dX8_diaryRefusal_15 rfl (lv_at hl 2 rfl) ?_
      refine lv_aload_n hx hb dX8_diaryRefusal_16 rfl (lv_at hl 1 rfl) ?_
      refine va_get (ci := 4) (C := RX8) (T := TX8) (N := 7) (v := .ref (gA G 21)) hx hb hts inX8 hown hK.1 hP 0 (at_4 rfl) rfl 2 (by decide) w1 (fun _ h9 => h9) rfl dX8_diaryRefusal_17 ?_
      obtain ⟨q2, h3, hF⟩ := ob_some hF
      refine k_SNv (As := [.ref (gA G i1), .ref (gA G 21)]) (rest := []) Z hK hP hS (t_X2_isWhole l G hG i1 21 hk1 (rfl : kd 21 = 3) σ _ h3) ⟨va_cnB 2 hts gX8_diaryRefusal_X2_isWhole_n351 rfl rfl rfl w3n w2 (by decide +kernel) ⟨Nat.le_of_ble_eq_true rfl, Nat.le_of_ble_eq_true rfl⟩, w4, trivial⟩ rfl hl.1 rfl (Nat.le_of_ble_eq_true rfl) ⟨Nat.zero_le _, Nat.zero_le _⟩ dX8_diaryRefusal_20 (fun H locs hP hS => ?_)
      refine lv_if_eq (tgt := 30) hx hb dX8_diaryRefusal_23 (by decide) (fun c4 => ?_) (fun c4 => ?_)
      · have hF := ite_f (b2i_e0 c4) hF
        refine lv_bipush (v := -13) hx hb dX8_diaryRefusal_30 (by decide) ?_
        exact e_iP hx hb hr hP hS hlocks dX8_diaryRefusal_32 hF
      · have hF := ite_t (b2i_n0 c4) hF
        refine lv_iconst (v := 0) hx hb dX8_diaryRefusal_26 (by decide) ?_
        refine lv_goto (tgt := 32) hx hb dX8_diaryRefusal_27 (by decide) ?_
        exact e_iP hx hb hr hP hS hlocks dX8_diaryRefusal_32 hF
    · have hF := ite_f c1 hF
      refine lv_iload_n hx hb dX8_diaryRefusal_13 rfl (lv_at hl 0 rfl) ?_
      exact e_iP hx hb hr hP hS hlocks dX8_diaryRefusal_14 hF
def f_X8_slips (x1 : Int32) (x2 : Int32) (σ : St) : Option Int32 := (if (f_X8_isBelow x2 (2 : Int32)) = true then (ob (f_X8_shelfAt x1 σ) (fun q2 => oc q2 ((ob (f_X8_diaryRefusal none σ) (fun q5 => some q5))) (fun i4 => (ob (f_X8_diaryRefusal (some i4) σ) (fun q7 => if q7 = 0 then (if x2 = 0 then (ob (f_X2_fewestStruck i4 σ) (fun q13 => some q13)) else (ob (f_X2_offTheirDay i4 21 σ) (fun q11 => some q11))) else (some q7)))))) else (some (-1 : Int32)))
set_option maxRecDepth 100000 in
set_option maxHeartbeats 4000000 in
theorem t_X8_slips (l : Launch) (G : GT) (hG : Dw G) (x1 : Int32) (x2 : Int32) (σ : St) (o : Int32) (hF : f_X8_slips x1 x2 σ = some o) : Ct l G yX8_slips wsX8_slips 4 93 [.ref (gA G 0), .int x1, .int x2] σ (some (.int o)) σ := by
  refine Met.ofW (cc := cX8_slips) (maxL := 5) (ret := (some .int)) (by decide) rfl ?_
  intro p e s m args below meth c s₁ B hml hv
  obtain ⟨rfl, hP, hK⟩ := hv
  have hx := B.exec
  have hb := B.bytes
  have hr := B.returns
  have hts := atoms_spec (ws := wsX8_slips) B.pre
  have hown : s.vm.findClass RX8 = some m.cls := findClass_of_methodNamed B.named
  have hlocks := B.notSynchronized
  have Z : CallFix p m c cX8_slips 5 s _ wsX8_slips RX8 := ⟨hx, hb, hml, hown, hts⟩
  have hS : va_S (AG G) s.heap s.heap [] := va_S.rf
  have inX8 : ∀ w ∈ u_ws RX8 TX8 7, w ∈ wsX8_slips := by decide +kernel
  have w1 := hts (.fieldLink RX8 27 "AlmanacOfTheYearGone" "now" "LAlmanacOfTheYearGone$Year;") (by decide +kernel)
  have w2 := hts (.initialized RX2) (by decide +kernel)
  have w3n : va_Nw (.methodLinkNest "AlmanacOfTheYearGone" 195 ⟨"AlmanacOfTheYearGone$Diary", "offTheirDay", "(LAlmanacOfTheYearGone$Shelf;LAlmanacOfTheYearGone$Year;)I"⟩ "AlmanacOfTheYearGone") s := hK.2 _ (List.mem_of_getElem? (i := 87) rfl)
  have w3 := va_Nw.use (A := [.ref (gA G 0), .int x1, .int x2].toArray) rfl w3n
  have w4 := hts (.static yX2_offTheirDay) (by decide +kernel)
  have w5n : va_Nw (.methodLinkNest "AlmanacOfTheYearGone" 190 ⟨"AlmanacOfTheYearGone$Diary", "fewestStruck", "(LAlmanacOfTheYearGone$Shelf;)I"⟩ "AlmanacOfTheYearGone") s := hK.2 _ (List.mem_of_getElem? (i := 86) rfl)
  have w5 := va_Nw.use (A := [.ref (gA G 0), .int x1, .int x2].toArray) rfl w5n
  have w6 := hts (.static yX2_fewestStruck) (by decide +kernel)
  have hl := lv_entry ([.ref (gA G 0), .int x1, .int x2]) (n := 5) (Nat.le_of_ble_eq_true rfl)
  rw [lg_entry_eq]
  generalize (lg_sl ([.ref (gA G 0), .int x1, .int x2]) ++ List.replicate (5 - (lg_sl ([.ref (gA G 0), .int x1, .int x2])).length) Slot.unset).toArray = ls at hl ⊢
  have hl : lv_has ls 5 [(0, .ref (gA G 0)), (1, .int x1), (2, .int x2)] := hl
  unfold f_X8_slips at hF
  refine lv_iload_n hx hb dX8_slips_0 rfl (lv_at hl 2 rfl) ?_
  refine lv_iconst (v := 2) hx hb dX8_slips_1 (by decide) ?_
  refine k_Sv (As := [.int x2, .int (2 : Int32)]) (rest := []) Z hK hP hS (t_X8_isBelow l G hG x2 (2 : Int32) σ) (va_cwS 2 hts gX8_slips_X8_isBelow rfl rfl rfl (by decide +kernel) ⟨Nat.le_of_ble_eq_true rfl, Nat.le_of_ble_eq_true rfl⟩) rfl hl.1 rfl (Nat.le_of_ble_eq_true rfl) ⟨Nat.zero_le _, Nat.zero_le _⟩ dX8_slips_2 (fun H locs hP hS => ?_)
  refine lv_if_ne (tgt := 10) hx hb dX8_slips_5 (by decide) (fun c1 => ?_) (fun c1 => ?_)
  · have hF := ite_t (b2i_n0 c1) hF
    refine lv_aload_n hx hb dX8_slips_10 rfl (lv_at hl 0 rfl) ?_
    refine lv_iload_n hx hb dX8_slips_11 rfl (lv_at hl 1 rfl) ?_
    obtain ⟨q2, h3, hF⟩ := ob_some hF
    refine k_Vv (As := [.int x1]) (rest := []) Z hK hP hS (t_X8_shelfAt l G hG x1 σ _ h3) (cwV 1 hts gX8_slips_X8_shelfAt rfl rfl rfl (by decide +kernel) ⟨Nat.le_of_ble_eq_true rfl, Nat.le_of_ble_eq_true rfl⟩) (at_4 rfl) rfl rfl hl.1 rfl (Nat.le_of_ble_eq_true rfl) ⟨Nat.zero_le _, Nat.zero_le _⟩ dX8_slips_12 (fun H locs hP hS => ?_)
    rcases q2 with _ | i4
    · have hF := oc_n hF
      refine W.eq (g2 := F0 m 15 ls [.null]) rfl ?_
      refine lv_astore_nN (lv' := [(3, .null), (0, .ref (gA G 0)), (1, .int x1), (2, .int x2)]) hx hb dX8_slips_15 rfl hl (by decide) rfl (fun ls hl => ?_)
      refine lv_aload_n hx hb dX8_slips_16 rfl (lv_at hl 1 rfl) ?_
      refine lv_aload_nN hx hb dX8_slips_17 rfl (lv_at hl 0 rfl) ?_
      obtain ⟨q5, h6, hF⟩ := ob_some hF
      refine k_Vv (As := [.null]) (rest := []) Z hK hP hS (t_X8_diaryRefusal l G hG none (fun _ h9 => by cases h9) σ _ h6) (cwV 1 hts gX8_slips_X8_diaryRefusal rfl rfl rfl (by decide +kernel) ⟨Nat.le_of_ble_eq_true rfl, Nat.le_of_ble_eq_true rfl⟩) (at_4 rfl) rfl rfl hl.1 rfl (Nat.le_of_ble_eq_true rfl) ⟨Nat.zero_le _, Nat.zero_le _⟩ dX8_slips_18 (fun H locs hP hS => ?_)
      refine lv_istore (lv' := [(4, .int q5), (3, .null), (0, .ref (gA G 0)), (1, .int x1), (2, .int x2)]) hx hb dX8_slips_21 hl (by decide) rfl (fun ls hl => ?_)
      refine lv_aload_nN hx hb dX8_slips_23 rfl (lv_at hl 1 rfl) ?_
      refine lv_ifnullN (tgt := 32) hx hb dX8_slips_24 (by decide) ?_
      refine lv_iload hx hb dX8_slips_32 (lv_at hl 0 rfl) ?_
      exact e_iP hx hb hr hP hS hlocks dX8_slips_34 hF
    · have hF := oc_s hF
      have ki4 : kd i4 = 2 := q_X8_shelfAt  h3
      refine W.eq (g2 := F0 m 15 ls [.ref (gA G i4)]) rfl ?_
      refine lv_astore_n (lv' := [(3, .ref (gA G i4)), (0, .ref (gA G 0)), (1, .int x1), (2, .int x2)]) hx hb dX8_slips_15 rfl hl (by decide) rfl (fun ls hl => ?_)
      refine lv_aload_n hx hb dX8_slips_16 rfl (lv_at hl 1 rfl) ?_
      refine lv_aload_n hx hb dX8_slips_17 rfl (lv_at hl 0 rfl) ?_
      obtain ⟨q7, h8, hF⟩ := ob_some hF
      refine k_Vv (As := [.ref (gA G i4)]) (rest := []) Z hK hP hS (t_X8_diaryRefusal l G hG (some i4) (fun _ h9 => by cases h9; exact ki4) σ _ h8) (cwV 1 hts gX8_slips_X8_diaryRefusal rfl rfl rfl (by decide +kernel) ⟨Nat.le_of_ble_eq_true rfl, Nat.le_of_ble_eq_true rfl⟩) (at_4 rfl) rfl rfl hl.1 rfl (Nat.le_of_ble_eq_true rfl) ⟨Nat.zero_le _, Nat.zero_le _⟩ dX8_slips_18 (fun H locs hP hS => ?_)
      refine lv_istore (lv' := [(4, .int q7), (3, .ref (gA G i4)), (0, .ref (gA G 0)), (1, .int x1), (2, .int x2)]) hx hb dX8_slips_21 hl (by decide) rfl (fun ls hl => ?_)
      refine lv_aload_n hx hb dX8_slips_23 rfl (lv_at hl 1 rfl) ?_
      refine lv_ifnull hx hb dX8_slips_24 ?_
      refine lv_iload hx hb dX8_slips_27 (lv_at hl 0 rfl) ?_
      refine lv_if_eq (tgt := 35) hx hb dX8_slips_29 (by decide) (fun c9 => ?_) (fun c9 => ?_)
      · have hF := ite_t c9 hF
        refine lv_iload_n hx hb dX8_slips_35 rfl (lv_at hl 4 rfl) ?_
        refine lv_if_ne (tgt := 46) hx hb dX8_slips_36 (by decide) (fun c10 => ?_) (fun c10 => ?_)
        · have hF := ite_f c10 hF
          refine lv_aload_n hx hb dX8_slips_46 rfl (lv_at hl 1 rfl) ?_
          refine lv_aload_n hx hb dX8_slips_47 rfl (lv_at hl 2 rfl) ?_
          refine va_get (ci := 4) (C := RX8) (T := TX8) (N := 7) (v := .ref (gA G 21)) hx hb hts inX8 hown hK.1 hP 0 (at_4 rfl) rfl 2 (by decide) w1 (fun _ h9 => h9) rfl dX8_slips_48 ?_
          obtain ⟨q11, h12, hF⟩ := ob_some hF
          refine k_SNv (As := [.ref (gA G i4), .ref (gA G 21)]) (rest := []) Z hK hP hS (t_X2_offTheirDay l G hG i4 21 ki4 (rfl : kd 21 = 3) σ _ h12) ⟨va_cnB 2 hts gX8_slips_X2_offTheirDay_n195 rfl rfl rfl w3n w2 (by decide +kernel) ⟨Nat.le_of_ble_eq_true rfl, Nat.le_of_ble_eq_true rfl⟩, w4, trivial⟩ rfl hl.1 rfl (Nat.le_of_ble_eq_true rfl) ⟨Nat.zero_le _, Nat.zero_le _⟩ dX8_slips_51 (fun H locs hP hS => ?_)
          exact e_iP hx hb hr hP hS hlocks dX8_slips_54 hF
        · have hF := ite_t c10 hF
          refine lv_aload_n hx hb dX8_slips_39 rfl (lv_at hl 1 rfl) ?_
          obtain ⟨q13, h14, hF⟩ := ob_some hF
          refine k_SNv (As := [.ref (gA G i4)]) (rest := []) Z hK hP hS (t_X2_fewestStruck l G hG i4 ki4 σ _ h14) ⟨va_cnB 1 hts gX8_slips_X2_fewestStruck_n190 rfl rfl rfl w5n w2 (by decide +kernel) ⟨Nat.le_of_ble_eq_true rfl, Nat.le_of_ble_eq_true rfl⟩, w6, trivial⟩ rfl hl.1 rfl (Nat.le_of_ble_eq_true rfl) ⟨Nat.zero_le _, Nat.zero_le _⟩ dX8_slips_40 (fun H locs hP hS => ?_)
          refine lv_goto (tgt := 54) hx hb dX8_slips_43 (by decide) ?_
          exact e_iP hx hb hr hP hS hlocks dX8_slips_54 hF
      · have hF := ite_f c9 hF
        refine lv_iload hx hb dX8_slips_32 (lv_at hl 0 rfl) ?_
        exact e_iP hx hb hr hP hS hlocks dX8_slips_34 hF
  · have hF := ite_f (b2i_e0 c1) hF
    refine lv_iconst (v := -1) hx hb dX8_slips_8 (by decide) ?_
    exact e_iP hx hb hr hP hS hlocks dX8_slips_9 hF
def f_X8_trueDay (x1 : Int32) (x2 : Int32) (σ : St) : Option Int32 := (ob (f_X7_deedAt 21 x2 σ) (fun q1 => oc q1 ((some (-1 : Int32))) (fun i3 => (ob (f_X8_shelfAt x1 σ) (fun q4 => oc q4 ((ob (f_X8_diaryRefusal none σ) (fun q7 => some q7))) (fun i6 => (ob (f_X8_diaryRefusal (some i6) σ) (fun q9 => if q9 = 0 then (ob (f_X2_dayToldMost i6 x2 σ) (fun q12 => some q12)) else (some q9)))))))))
set_option maxRecDepth 100000 in
set_option maxHeartbeats 4000000 in
theorem t_X8_trueDay (l : Launch) (G : GT) (hG : Dw G) (x1 : Int32) (x2 : Int32) (σ : St) (o : Int32) (hF : f_X8_trueDay x1 x2 σ = some o) : Ct l G yX8_trueDay wsX8_trueDay 4 83 [.ref (gA G 0), .int x1, .int x2] σ (some (.int o)) σ := by
  refine Met.ofW (cc := cX8_trueDay) (maxL := 5) (ret := (some .int)) (by decide) rfl ?_
  intro p e s m args below meth c s₁ B hml hv
  obtain ⟨rfl, hP, hK⟩ := hv
  have hx := B.exec
  have hb := B.bytes
  have hr := B.returns
  have hts := atoms_spec (ws := wsX8_trueDay) B.pre
  have hown : s.vm.findClass RX8 = some m.cls := findClass_of_methodNamed B.named
  have hlocks := B.notSynchronized
  have Z : CallFix p m c cX8_trueDay 5 s _ wsX8_trueDay RX8 := ⟨hx, hb, hml, hown, hts⟩
  have hS : va_S (AG G) s.heap s.heap [] := va_S.rf
  have inX8 : ∀ w ∈ u_ws RX8 TX8 7, w ∈ wsX8_trueDay := by decide +kernel
  have w1 := hts (.fieldLink RX8 27 "AlmanacOfTheYearGone" "now" "LAlmanacOfTheYearGone$Year;") (by decide +kernel)
  have w2 := hts (.initialized RX7) (by decide +kernel)
  have w3n : va_Nw (.methodLinkNest "AlmanacOfTheYearGone" 78 ⟨"AlmanacOfTheYearGone$Year", "deedAt", "(I)LAlmanacOfTheYearGone$Deed;"⟩ "AlmanacOfTheYearGone") s := hK.2 _ (List.mem_of_getElem? (i := 52) rfl)
  have w3 := va_Nw.use (A := [.ref (gA G 0), .int x1, .int x2].toArray) rfl w3n
  have w4 := hts (.instanceMethod yX7_deedAt) (by decide +kernel)
  have w5 := hts (.selects RX7 yX7_deedAt yX7_deedAt) (by decide +kernel)
  have w6 := hts (.initialized RX2) (by decide +kernel)
  have w7n : va_Nw (.methodLinkNest "AlmanacOfTheYearGone" 198 ⟨"AlmanacOfTheYearGone$Diary", "dayToldMost", "(LAlmanacOfTheYearGone$Shelf;I)I"⟩ "AlmanacOfTheYearGone") s := hK.2 _ (List.mem_of_getElem? (i := 88) rfl)
  have w7 := va_Nw.use (A := [.ref (gA G 0), .int x1, .int x2].toArray) rfl w7n
  have w8 := hts (.static yX2_dayToldMost) (by decide +kernel)
  have hl := lv_entry ([.ref (gA G 0), .int x1, .int x2]) (n := 5) (Nat.le_of_ble_eq_true rfl)
  rw [lg_entry_eq]
  generalize (lg_sl ([.ref (gA G 0), .int x1, .int x2]) ++ List.replicate (5 - (lg_sl ([.ref (gA G 0), .int x1, .int x2])).length) Slot.unset).toArray = ls at hl ⊢
  have hl : lv_has ls 5 [(0, .ref (gA G 0)), (1, .int x1), (2, .int x2)] := hl
  unfold f_X8_trueDay at hF
  refine lv_aload_n hx hb dX8_trueDay_0 rfl (lv_at hl 0 rfl) ?_
  refine va_get (ci := 4) (C := RX8) (T := TX8) (N := 7) (v := .ref (gA G 21)) hx hb hts inX8 hown hK.1 hP 0 (at_4 rfl) rfl 2 (by decide) w1 (fun _ h9 => h9) rfl dX8_trueDay_1 ?_
  refine lv_iload_n hx hb dX8_trueDay_4 rfl (lv_at hl 2 rfl) ?_
  obtain ⟨q1, h2, hF⟩ := ob_some hF
  refine k_VNv (As := [.int x2]) (rest := []) Z hK hP hS (t_X7_deedAt l G hG 21 x2 (rfl : kd 21 = 3) σ _ h2) ⟨va_cnB 1 hts gX8_trueDay_X7_deedAt_n78 rfl rfl rfl w3n w2 (by decide +kernel) ⟨Nat.le_of_ble_eq_true rfl, Nat.le_of_ble_eq_true rfl⟩, w4, w5⟩ (at_3 (rfl : kd 21 = 3)) rfl rfl hl.1 rfl (Nat.le_of_ble_eq_true rfl) ⟨Nat.zero_le _, Nat.zero_le _⟩ dX8_trueDay_5 (fun H locs hP hS => ?_)
  rcases q1 with _ | i3
  · have hF := oc_n hF
    refine W.eq (g2 := F0 m 8 ls [.null]) rfl ?_
    refine lv_ifnonnullN hx hb dX8_trueDay_8 ?_
    refine lv_iconst (v := -1) hx hb dX8_trueDay_11 (by decide) ?_
    exact e_iP hx hb hr hP hS hlocks dX8_trueDay_12 hF
  · have hF := oc_s hF
    have ki3 : kd i3 = 1 := q_X7_deedAt (rfl : kd 21 = 3) h2
    refine W.eq (g2 := F0 m 8 ls [.ref (gA G i3)]) rfl ?_
    refine lv_ifnonnull (tgt := 13) hx hb dX8_trueDay_8 (by decide) ?_
    refine lv_aload_n hx hb dX8_trueDay_13 rfl (lv_at hl 0 rfl) ?_
    refine lv_iload_n hx hb dX8_trueDay_14 rfl (lv_at hl 1 rfl) ?_
    obtain ⟨q4, h5, hF⟩ := ob_some hF
    refine k_Vv (As := [.int x1]) (rest := []) Z hK hP hS (t_X8_shelfAt l G hG x1 σ _ h5) (cwV 1 hts gX8_trueDay_X8_shelfAt rfl rfl rfl (by decide +kernel) ⟨Nat.le_of_ble_eq_true rfl, Nat.le_of_ble_eq_true rfl⟩) (at_4 rfl) rfl rfl hl.1 rfl (Nat.le_of_ble_eq_true rfl) ⟨Nat.zero_le _, Nat.zero_le _⟩ dX8_trueDay_15 (fun H locs hP hS => ?_)
    rcases q4 with _ | i6
    · have hF := oc_n hF
      refine W.eq (g2 := F0 m 18 ls [.null]) rfl ?_
      refine lv_astore_nN (lv' := [(3, .null), (0, .ref (gA G 0)), (1, .int x1), (2, .int x2)]) hx hb dX8_trueDay_18 rfl hl (by decide) rfl (fun ls hl => ?_)
      refine lv_aload_n hx hb dX8_trueDay_19 rfl (lv_at hl 1 rfl) ?_
      refine lv_aload_nN hx hb dX8_trueDay_20 rfl (lv_at hl 0 rfl) ?_
      obtain ⟨q7, h8, hF⟩ := ob_some hF
      refine k_Vv (As := [.null]) (rest := []) Z hK hP hS (t_X8_diaryRefusal l G hG none (fun _ h9 => by cases h9) σ _ h8) (cwV 1 hts gX8_trueDay_X8_diaryRefusal rfl rfl rfl (by decide +kernel) ⟨Nat.le_of_ble_eq_true rfl, Nat.le_of_ble_eq_true rfl⟩) (at_4 rfl) rfl rfl hl.1 rfl (Nat.le_of_ble_eq_true rfl) ⟨Nat.zero_le _, Nat.zero_le _⟩ dX8_trueDay_21 (fun H locs hP hS => ?_)
      refine lv_istore (lv' := [(4, .int q7), (3, .null), (0, .ref (gA G 0)), (1, .int x1), (2, .int x2)]) hx hb dX8_trueDay_24 hl (by decide) rfl (fun ls hl => ?_)
      refine lv_aload_nN hx hb dX8_trueDay_26 rfl (lv_at hl 1 rfl) ?_
      refine lv_ifnullN (tgt := 35) hx hb dX8_trueDay_27 (by decide) ?_
      refine lv_iload hx hb dX8_trueDay_35 (lv_at hl 0 rfl) ?_
      exact e_iP hx hb hr hP hS hlocks dX8_trueDay_37 hF
    · have hF := oc_s hF
      have ki6 : kd i6 = 2 := q_X8_shelfAt  h5
      refine W.eq (g2 := F0 m 18 ls [.ref (gA G i6)]) rfl ?_
      refine lv_astore_n (lv' := [(3, .ref (gA G i6)), (0, .ref (gA G 0)), (1, .int x1), (2, .int x2)]) hx hb dX8_trueDay_18 rfl hl (by decide) rfl (fun ls hl => ?_)
      refine lv_aload_n hx hb dX8_trueDay_19 rfl (lv_at hl 1 rfl) ?_
      refine lv_aload_n hx hb dX8_trueDay_20 rfl (lv_at hl 0 rfl) ?_
      obtain ⟨q9, h10, hF⟩ := ob_some hF
      refine k_Vv (As := [.ref (gA G i6)]) (rest := []) Z hK hP hS (t_X8_diaryRefusal l G hG (some i6) (fun _ h9 => by cases h9; exact ki6) σ _ h10) (cwV 1 hts gX8_trueDay_X8_diaryRefusal rfl rfl rfl (by decide +kernel) ⟨Nat.le_of_ble_eq_true rfl, Nat.le_of_ble_eq_true rfl⟩) (at_4 rfl) rfl rfl hl.1 rfl (Nat.le_of_ble_eq_true rfl) ⟨Nat.zero_le _, Nat.zero_le _⟩ dX8_trueDay_21 (fun H locs hP hS => ?_)
      refine lv_istore (lv' := [(4, .int q9), (3, .ref (gA G i6)), (0, .ref (gA G 0)), (1, .int x1), (2, .int x2)]) hx hb dX8_trueDay_24 hl (by decide) rfl (fun ls hl => ?_)
      refine lv_aload_n hx hb dX8_trueDay_26 rfl (lv_at hl 1 rfl) ?_
      refine lv_ifnull hx hb dX8_trueDay_27 ?_
      refine lv_iload hx hb dX8_trueDay_30 (lv_at hl 0 rfl) ?_
      refine lv_if_eq (tgt := 38) hx hb dX8_trueDay_32 (by decide) (fun c11 => ?_) (fun c11 => ?_)
      · have hF := ite_t c11 hF
        refine lv_aload_n hx hb dX8_trueDay_38 rfl (lv_at hl 1 rfl) ?_
        refine lv_iload_n hx hb dX8_trueDay_39 rfl (lv_at hl 4 rfl) ?_
        obtain ⟨q12, h13, hF⟩ := ob_some hF
        refine k_SNv (As := [.ref (gA G i6), .int x2]) (rest := []) Z hK hP hS (t_X2_dayToldMost l G hG i6 x2 ki6 σ _ h13) ⟨va_cnB 2 hts gX8_trueDay_X2_dayToldMost_n198 rfl rfl rfl w7n w6 (by decide +kernel) ⟨Nat.le_of_ble_eq_true rfl, Nat.le_of_ble_eq_true rfl⟩, w8, trivial⟩ rfl hl.1 rfl (Nat.le_of_ble_eq_true rfl) ⟨Nat.zero_le _, Nat.zero_le _⟩ dX8_trueDay_40 (fun H locs hP hS => ?_)
        exact e_iP hx hb hr hP hS hlocks dX8_trueDay_43 hF
      · have hF := ite_f c11 hF
        refine lv_iload hx hb dX8_trueDay_35 (lv_at hl 0 rfl) ?_
        exact e_iP hx hb hr hP hS hlocks dX8_trueDay_37 hF
