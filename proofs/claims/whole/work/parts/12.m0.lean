def f_J6_bitCount_0f7a4 (x0 : Int32) : Int32 := ((((((((x0 - (((x0.toUInt32 >>> ((1 : Int32).toUInt32 &&& Int32.toUInt32 31)).toInt32) &&& (1431655765 : Int32))) &&& (858993459 : Int32)) + ((((x0 - (((x0.toUInt32 >>> ((1 : Int32).toUInt32 &&& Int32.toUInt32 31)).toInt32) &&& (1431655765 : Int32))).toUInt32 >>> ((2 : Int32).toUInt32 &&& Int32.toUInt32 31)).toInt32) &&& (858993459 : Int32))) + (((((x0 - (((x0.toUInt32 >>> ((1 : Int32).toUInt32 &&& Int32.toUInt32 31)).toInt32) &&& (1431655765 : Int32))) &&& (858993459 : Int32)) + ((((x0 - (((x0.toUInt32 >>> ((1 : Int32).toUInt32 &&& Int32.toUInt32 31)).toInt32) &&& (1431655765 : Int32))).toUInt32 >>> ((2 : Int32).toUInt32 &&& Int32.toUInt32 31)).toInt32) &&& (858993459 : Int32))).toUInt32 >>> ((4 : Int32).toUInt32 &&& Int32.toUInt32 31)).toInt32)) &&& (252645135 : Int32)) + (((((((x0 - (((x0.toUInt32 >>> ((1 : Int32).toUInt32 &&& Int32.toUInt32 31)).toInt32) &&& (1431655765 : Int32))) &&& (858993459 : Int32)) + ((((x0 - (((x0.toUInt32 >>> ((1 : Int32).toUInt32 &&& Int32.toUInt32 31)).toInt32) &&& (1431655765 : Int32))).toUInt32 >>> ((2 : Int32).toUInt32 &&& Int32.toUInt32 31)).toInt32) &&& (858993459 : Int32))) + (((((x0 - (((x0.toUInt32 >>> ((1 : Int32).toUInt32 &&& Int32.toUInt32 31)).toInt32) &&& (1431655765 : Int32))) &&& (858993459 : Int32)) + ((((x0 - (((x0.toUInt32 >>> ((1 : Int32).toUInt32 &&& Int32.toUInt32 31)).toInt32) &&& (1431655765 : Int32))).toUInt32 >>> ((2 : Int32).toUInt32 &&& Int32.toUInt32 31)).toInt32) &&& (858993459 : Int32))).toUInt32 >>> ((4 : Int32).toUInt32 &&& Int32.toUInt32 31)).toInt32)) &&& (252645135 : Int32)).toUInt32 >>> ((8 : Int32).toUInt32 &&& Int32.toUInt32 31)).toInt32)) + ((((((((x0 - (((x0.toUInt32 >>> ((1 : Int32).toUInt32 &&& Int32.toUInt32 31)).toInt32) &&& (1431655765 : Int32))) &&& (858993459 : Int32)) + ((((x0 - (((x0.toUInt32 >>> ((1 : Int32).toUInt32 &&& Int32.toUInt32 31)).toInt32) &&& (1431655765 : Int32))).toUInt32 >>> ((2 : Int32).toUInt32 &&& Int32.toUInt32 31)).toInt32) &&& (858993459 : Int32))) + (((((x0 - (((x0.toUInt32 >>> ((1 : Int32).toUInt32 &&& Int32.toUInt32 31)).toInt32) &&& (1431655765 : Int32))) &&& (858993459 : Int32)) + ((((x0 - (((x0.toUInt32 >>> ((1 : Int32).toUInt32 &&& Int32.toUInt32 31)).toInt32) &&& (1431655765 : Int32))).toUInt32 >>> ((2 : Int32).toUInt32 &&& Int32.toUInt32 31)).toInt32) &&& (858993459 : Int32))).toUInt32 >>> ((4 : Int32).toUInt32 &&& Int32.toUInt32 31)).toInt32)) &&& (252645135 : Int32)) + (((((((x0 - (((x0.toUInt32 >>> ((1 : Int32).toUInt32 &&& Int32.toUInt32 31)).toInt32) &&& (1431655765 : Int32))) &&& (858993459 : Int32)) + ((((x0 - (((x0.toUInt32 >>> ((1 : Int32).toUInt32 &&& Int32.toUInt32 31)).toInt32) &&& (1431655765 : Int32))).toUInt32 >>> ((2 : Int32).toUInt32 &&& Int32.toUInt32 31)).toInt32) &&& (858993459 : Int32))) + (((((x0 - (((x0.toUInt32 >>> ((1 : Int32).toUInt32 &&& Int32.toUInt32 31)).toInt32) &&& (1431655765 : Int32))) &&& (858993459 : Int32)) + ((((x0 - (((x0.toUInt32 >>> ((1 : Int32).toUInt32 &&& Int32.toUInt32 31)).toInt32) &&& (1431655765 : Int32))).toUInt32 >>> ((2 : Int32).toUInt32 &&& Int32.toUInt32 31)).toInt32) &&& (858993459 : Int32))).toUInt32 >>> ((4 : Int32).toUInt32 &&& Int32.toUInt32 31)).toInt32)) &&& (252645135 : Int32)).toUInt32 >>> ((8 : Int32).toUInt32 &&& Int32.toUInt32 31)).toInt32)).toUInt32 >>> ((16 : Int32).toUInt32 &&& Int32.toUInt32 31)).toInt32)) &&& (63 : Int32))
set_option maxRecDepth 100000 in
set_option maxHeartbeats 4000000 in
theorem t_J6_bitCount_0f7a4 (l : Launch) (G : GT) (hG : Dw G) (x0 : Int32) (σ : St) : Ct l G yJ6_bitCount_0f7a4 wsJ6_bitCount_0f7a4 0 0 [.int x0] σ (some (.int (f_J6_bitCount_0f7a4 x0))) σ := by
  obtain ⟨o, hF⟩ : ∃ o, f_J6_bitCount_0f7a4 x0 = o := ⟨_, rfl⟩
  rw [hF]
  refine Met.ofW (cc := cJ6_bitCount_0f7a4) (maxL := 1) (ret := (some .int)) (by decide) rfl ?_
  intro p e s m args below meth c s₁ B hml hv
  obtain ⟨rfl, hP, hK⟩ := hv
  have hx := B.exec
  have hb := B.bytes
  have hr := B.returns
  have hts := atoms_spec (ws := wsJ6_bitCount_0f7a4) B.pre
  have hown : s.vm.findClass RJ6 = some m.cls := findClass_of_methodNamed B.named
  have hlocks := B.notSynchronized
  have Z : CallFix p m c cJ6_bitCount_0f7a4 1 s _ wsJ6_bitCount_0f7a4 RJ6 := ⟨hx, hb, hml, hown, hts⟩
  have hS : va_S (AG G) s.heap s.heap [] := va_S.rf
  have w1 := hts (.constant RJ6 265 (1431655765)) (by decide +kernel)
  have w2 := hts (.constant RJ6 266 (858993459)) (by decide +kernel)
  have w3 := hts (.constant RJ6 267 (252645135)) (by decide +kernel)
  have hl := lv_entry ([.int x0]) (n := 1) (Nat.le_of_ble_eq_true rfl)
  rw [lg_entry_eq]
  generalize (lg_sl ([.int x0]) ++ List.replicate (1 - (lg_sl ([.int x0])).length) Slot.unset).toArray = ls at hl ⊢
  have hl : lv_has ls 1 [(0, .int x0)] := hl
  unfold f_J6_bitCount_0f7a4 at hF
  refine lv_iload_n hx hb dJ6_bitCount_0f7a4_0 rfl (lv_at hl 0 rfl) ?_
  refine lv_iload_n hx hb dJ6_bitCount_0f7a4_1 rfl (lv_at hl 0 rfl) ?_
  refine lv_iconst (v := 1) hx hb dJ6_bitCount_0f7a4_2 (by decide) ?_
  refine lv_iushr hx hb dJ6_bitCount_0f7a4_3 rfl ?_
  refine lv_ldcw hx hb hown w1 dJ6_bitCount_0f7a4_4 ?_
  refine lv_iand hx hb dJ6_bitCount_0f7a4_7 ?_
  refine lv_isub hx hb dJ6_bitCount_0f7a4_8 ?_
  refine lv_istore_n (lv' := [(0, .int (x0 - (((x0.toUInt32 >>> ((1 : Int32).toUInt32 &&& Int32.toUInt32 31)).toInt32) &&& (1431655765 : Int32))))]) hx hb dJ6_bitCount_0f7a4_9 rfl hl (by decide) rfl (fun ls hl => ?_)
  refine lv_iload_n hx hb dJ6_bitCount_0f7a4_10 rfl (lv_at hl 0 rfl) ?_
  refine lv_ldcw hx hb hown w2 dJ6_bitCount_0f7a4_11 ?_
  refine lv_iand hx hb dJ6_bitCount_0f7a4_14 ?_
  refine lv_iload_n hx hb dJ6_bitCount_0f7a4_15 rfl (lv_at hl 0 rfl) ?_
  refine lv_iconst (v := 2) hx hb dJ6_bitCount_0f7a4_16 (by decide) ?_
  refine lv_iushr hx hb dJ6_bitCount_0f7a4_17 rfl ?_
  refine lv_ldcw hx hb hown w2 dJ6_bitCount_0f7a4_18 ?_
  refine lv_iand hx hb dJ6_bitCount_0f7a4_21 ?_
  refine lv_iadd hx hb dJ6_bitCount_0f7a4_22 ?_
  refine lv_istore_n (lv' := [(0, .int (((x0 - (((x0.toUInt32 >>> ((1 : Int32).toUInt32 &&& Int32.toUInt32 31)).toInt32) &&& (1431655765 : Int32))) &&& (858993459 : Int32)) + ((((x0 - (((x0.toUInt32 >>> ((1 : Int32).toUInt32 &&& Int32.toUInt32 31)).toInt32) &&& (1431655765 : Int32))).toUInt32 >>> ((2 : Int32).toUInt32 &&& Int32.toUInt32 31)).toInt32) &&& (858993459 : Int32))))]) hx hb dJ6_bitCount_0f7a4_23 rfl hl (by decide) rfl (fun ls hl => ?_)
  refine lv_iload_n hx hb dJ6_bitCount_0f7a4_24 rfl (lv_at hl 0 rfl) ?_
  refine lv_iload_n hx hb dJ6_bitCount_0f7a4_25 rfl (lv_at hl 0 rfl) ?_
  refine lv_iconst (v := 4) hx hb dJ6_bitCount_0f7a4_26 (by decide) ?_
  refine lv_iushr hx hb dJ6_bitCount_0f7a4_27 rfl ?_
  refine lv_iadd hx hb dJ6_bitCount_0f7a4_28 ?_
  refine lv_ldcw hx hb hown w3 dJ6_bitCount_0f7a4_29 ?_
  refine lv_iand hx hb dJ6_bitCount_0f7a4_32 ?_
  refine lv_istore_n (lv' := [(0, .int (((((x0 - (((x0.toUInt32 >>> ((1 : Int32).toUInt32 &&& Int32.toUInt32 31)).toInt32) &&& (1431655765 : Int32))) &&& (858993459 : Int32)) + ((((x0 - (((x0.toUInt32 >>> ((1 : Int32).toUInt32 &&& Int32.toUInt32 31)).toInt32) &&& (1431655765 : Int32))).toUInt32 >>> ((2 : Int32).toUInt32 &&& Int32.toUInt32 31)).toInt32) &&& (858993459 : Int32))) + (((((x0 - (((x0.toUInt32 >>> ((1 : Int32).toUInt32 &&& Int32.toUInt32 31)).toInt32) &&& (1431655765 : Int32))) &&& (858993459 : Int32)) + ((((x0 - (((x0.toUInt32 >>> ((1 : Int32).toUInt32 &&& Int32.toUInt32 31)).toInt32) &&& (1431655765 : Int32))).toUInt32 >>> ((2 : Int32).toUInt32 &&& Int32.toUInt32 31)).toInt32) &&& (858993459 : Int32))).toUInt32 >>> ((4 : Int32).toUInt32 &&& Int32.toUInt32 31)).toInt32)) &&& (252645135 : Int32)))]) hx hb dJ6_bitCount_0f7a4_33 rfl hl (by decide) rfl (fun ls hl => ?_)
  refine lv_iload_n hx hb dJ6_bitCount_0f7a4_34 rfl (lv_at hl 0 rfl) ?_
  refine lv_iload_n hx hb dJ6_bitCount_0f7a4_35 rfl (lv_at hl 0 rfl) ?_
  refine lv_bipush (v := 8) hx hb dJ6_bitCount_0f7a4_36 (by decide) ?_
  refine lv_iushr hx hb dJ6_bitCount_0f7a4_38 rfl ?_
  refine lv_iadd hx hb dJ6_bitCount_0f7a4_39 ?_
  refine lv_istore_n (lv' := [(0, .int ((((((x0 - (((x0.toUInt32 >>> ((1 : Int32).toUInt32 &&& Int32.toUInt32 31)).toInt32) &&& (1431655765 : Int32))) &&& (858993459 : Int32)) + ((((x0 - (((x0.toUInt32 >>> ((1 : Int32).toUInt32 &&& Int32.toUInt32 31)).toInt32) &&& (1431655765 : Int32))).toUInt32 >>> ((2 : Int32).toUInt32 &&& Int32.toUInt32 31)).toInt32) &&& (858993459 : Int32))) + (((((x0 - (((x0.toUInt32 >>> ((1 : Int32).toUInt32 &&& Int32.toUInt32 31)).toInt32) &&& (1431655765 : Int32))) &&& (858993459 : Int32)) + ((((x0 - (((x0.toUInt32 >>> ((1 : Int32).toUInt32 &&& Int32.toUInt32 31)).toInt32) &&& (1431655765 : Int32))).toUInt32 >>> ((2 : Int32).toUInt32 &&& Int32.toUInt32 31)).toInt32) &&& (858993459 : Int32))).toUInt32 >>> ((4 : Int32).toUInt32 &&& Int32.toUInt32 31)).toInt32)) &&& (252645135 : Int32)) + (((((((x0 - (((x0.toUInt32 >>> ((1 : Int32).toUInt32 &&& Int32.toUInt32 31)).toInt32) &&& (1431655765 : Int32))) &&& (858993459 : Int32)) + ((((x0 - (((x0.toUInt32 >>> ((1 : Int32).toUInt32 &&& Int32.toUInt32 31)).toInt32) &&& (1431655765 : Int32))).toUInt32 >>> ((2 : Int32).toUInt32 &&& Int32.toUInt32 31)).toInt32) &&& (858993459 : Int32))) + (((((x0 - (((x0.toUInt32 >>> ((1 : Int32).toUInt32 &&& Int32.toUInt32 31)).toInt32) &&& (1431655765 : Int32))) &&& (858993459 : Int32)) + ((((x0 - (((x0.toUInt32 >>> ((1 : Int32).toUInt32 &&& Int32.toUInt32 31)).toInt32) &&& (1431655765 : Int32))).toUInt32 >>> ((2 : Int32).toUInt32 &&& Int32.toUInt32 31)).toInt32) &&& (858993459 : Int32))).toUInt32 >>> ((4 : Int32).toUInt32 &&& Int32.toUInt32 31)).toInt32)) &&& (252645135 : Int32)).toUInt32 >>> ((8 : Int32).toUInt32 &&& Int32.toUInt32 31)).toInt32)))]) hx hb dJ6_bitCount_0f7a4_40 rfl hl (by decide) rfl (fun ls hl => ?_)
  refine lv_iload_n hx hb dJ6_bitCount_0f7a4_41 rfl (lv_at hl 0 rfl) ?_
  refine lv_iload_n hx hb dJ6_bitCount_0f7a4_42 rfl (lv_at hl 0 rfl) ?_
  refine lv_bipush (v := 16) hx hb dJ6_bitCount_0f7a4_43 (by decide) ?_
  refine lv_iushr hx hb dJ6_bitCount_0f7a4_45 rfl ?_
  refine lv_iadd hx hb dJ6_bitCount_0f7a4_46 ?_
  refine lv_istore_n (lv' := [(0, .int (((((((x0 - (((x0.toUInt32 >>> ((1 : Int32).toUInt32 &&& Int32.toUInt32 31)).toInt32) &&& (1431655765 : Int32))) &&& (858993459 : Int32)) + ((((x0 - (((x0.toUInt32 >>> ((1 : Int32).toUInt32 &&& Int32.toUInt32 31)).toInt32) &&& (1431655765 : Int32))).toUInt32 >>> ((2 : Int32).toUInt32 &&& Int32.toUInt32 31)).toInt32) &&& (858993459 : Int32))) + (((((x0 - (((x0.toUInt32 >>> ((1 : Int32).toUInt32 &&& Int32.toUInt32 31)).toInt32) &&& (1431655765 : Int32))) &&& (858993459 : Int32)) + ((((x0 - (((x0.toUInt32 >>> ((1 : Int32).toUInt32 &&& Int32.toUInt32 31)).toInt32) &&& (1431655765 : Int32))).toUInt32 >>> ((2 : Int32).toUInt32 &&& Int32.toUInt32 31)).toInt32) &&& (858993459 : Int32))).toUInt32 >>> ((4 : Int32).toUInt32 &&& Int32.toUInt32 31)).toInt32)) &&& (252645135 : Int32)) + (((((((x0 - (((x0.toUInt32 >>> ((1 : Int32).toUInt32 &&& Int32.toUInt32 31)).toInt32) &&& (1431655765 : Int32))) &&& (858993459 : Int32)) + ((((x0 - (((x0.toUInt32 >>> ((1 : Int32).toUInt32 &&& Int32.toUInt32 31)).toInt32) &&& (1431655765 : Int32))).toUInt32 >>> ((2 : Int32).toUInt32 &&& Int32.toUInt32 31)).toInt32) &&& (858993459 : Int32))) + (((((x0 - (((x0.toUInt32 >>> ((1 : Int32).toUInt32 &&& Int32.toUInt32 31)).toInt32) &&& (1431655765 : Int32))) &&& (858993459 : Int32)) + ((((x0 - (((x0.toUInt32 >>> ((1 : Int32).toUInt32 &&& Int32.toUInt32 31)).toInt32) &&& (1431655765 : Int32))).toUInt32 >>> ((2 : Int32).toUInt32 &&& Int32.toUInt32 31)).toInt32) &&& (858993459 : Int32))).toUInt32 >>> ((4 : Int32).toUInt32 &&& Int32.toUInt32 31)).toInt32)) &&& (252645135 : Int32)).toUInt32 >>> ((8 : Int32).toUInt32 &&& Int32.toUInt32 31)).toInt32)) + ((((((((x0 - (((x0.toUInt32 >>> ((1 : Int32).toUInt32 &&& Int32.toUInt32 31)).toInt32) &&& (1431655765 : Int32))) &&& (858993459 : Int32)) + ((((x0 - (((x0.toUInt32 >>> ((1 : Int32).toUInt32 &&& Int32.toUInt32 31)).toInt32) &&& (1431655765 : Int32))).toUInt32 >>> ((2 : Int32).toUInt32 &&& Int32.toUInt32 31)).toInt32) &&& (858993459 : Int32))) + (((((x0 - (((x0.toUInt32 >>> ((1 : Int32).toUInt32 &&& Int32.toUInt32 31)).toInt32) &&& (1431655765 : Int32))) &&& (858993459 : Int32)) + ((((x0 - (((x0.toUInt32 >>> ((1 : Int32).toUInt32 &&& Int32.toUInt32 31)).toInt32) &&& (1431655765 : Int32))).toUInt32 >>> ((2 : Int32).toUInt32 &&& Int32.toUInt32 31)).toInt32) &&& (858993459 : Int32))).toUInt32 >>> ((4 : Int32).toUInt32 &&& Int32.toUInt32 31)).toInt32)) &&& (252645135 : Int32)) + (((((((x0 - (((x0.toUInt32 >>> ((1 : Int32).toUInt32 &&& Int32.toUInt32 31)).toInt32) &&& (1431655765 : Int32))) &&& (858993459 : Int32)) + ((((x0 - (((x0.toUInt32 >>> ((1 : Int32).toUInt32 &&& Int32.toUInt32 31)).toInt32) &&& (1431655765 : Int32))).toUInt32 >>> ((2 : Int32).toUInt32 &&& Int32.toUInt32 31)).toInt32) &&& (858993459 : Int32))) + (((((x0 - (((x0.toUInt32 >>> ((1 : Int32).toUInt32 &&& Int32.toUInt32 31)).toInt32) &&& (1431655765 : Int32))) &&& (858993459 : Int32)) + ((((x0 - (((x0.toUInt32 >>> ((1 : Int32).toUInt32 &&& Int32.toUInt32 31)).toInt32) &&& (1431655765 : Int32))).toUInt32 >>> ((2 : Int32).toUInt32 &&& Int32.toUInt32 31)).toInt32) &&& (858993459 : Int32))).toUInt32 >>> ((4 : Int32).toUInt32 &&& Int32.toUInt32 31)).toInt32)) &&& (252645135 : Int32)).toUInt32 >>> ((8 : Int32).toUInt32 &&& Int32.toUInt32 31)).toInt32)).toUInt32 >>> ((16 : Int32).toUInt32 &&& Int32.toUInt32 31)).toInt32)))]) hx hb dJ6_bitCount_0f7a4_47 rfl hl (by decide) rfl (fun ls hl => ?_)
  refine lv_iload_n hx hb dJ6_bitCount_0f7a4_48 rfl (lv_at hl 0 rfl) ?_
  refine lv_bipush (v := 63) hx hb dJ6_bitCount_0f7a4_49 (by decide) ?_
  refine lv_iand hx hb dJ6_bitCount_0f7a4_51 ?_
  exact e_iT hx hb hr hP hS hlocks dJ6_bitCount_0f7a4_52 hF
def f_X4_lasting (x0 : Int32) (x1 : Int32) : Int32 := (if x0 = (1 : Int32) then (((10 : Int32) + x1) / (2 : Int32)) else if x0 = (2 : Int32) then ((4 : Int32) * ((10 : Int32) + x1)) else if x0 = (3 : Int32) then (((10 : Int32) + x1) + (30 : Int32)) else if x0 = (4 : Int32) then x1 else if x0 = (5 : Int32) then ((((10 : Int32) + x1) / (2 : Int32)) + (20 : Int32)) else if x0 = (6 : Int32) then (((4 : Int32) * ((10 : Int32) + x1)) / (2 : Int32)) else if x0 = (7 : Int32) then ((((10 : Int32) + x1) / (2 : Int32)) + (1 : Int32)) else ((10 : Int32) + x1))
set_option maxRecDepth 100000 in
set_option maxHeartbeats 4000000 in
theorem t_X4_lasting (l : Launch) (G : GT) (hG : Dw G) (x0 : Int32) (x1 : Int32) (σ : St) : Ct l G yX4_lasting wsX4_lasting 0 0 [.int x0, .int x1] σ (some (.int (f_X4_lasting x0 x1))) σ := by
  obtain ⟨o, hF⟩ : ∃ o, f_X4_lasting x0 x1 = o := ⟨_, rfl⟩
  rw [hF]
  refine Met.ofW (cc := cX4_lasting) (maxL := 5) (ret := (some .int)) (by decide) rfl ?_
  intro p e s m args below meth c s₁ B hml hv
  obtain ⟨rfl, hP, hK⟩ := hv
  have hx := B.exec
  have hb := B.bytes
  have hr := B.returns
  have hts := atoms_spec (ws := wsX4_lasting) B.pre
  have hown : s.vm.findClass RX4 = some m.cls := findClass_of_methodNamed B.named
  have hlocks := B.notSynchronized
  have Z : CallFix p m c cX4_lasting 5 s _ wsX4_lasting RX4 := ⟨hx, hb, hml, hown, hts⟩
  have hS : va_S (AG G) s.heap s.heap [] := va_S.rf
  have hl := lv_entry ([.int x0, .int x1]) (n := 5) (Nat.le_of_ble_eq_true rfl)
  rw [lg_entry_eq]
  generalize (lg_sl ([.int x0, .int x1]) ++ List.replicate (5 - (lg_sl ([.int x0, .int x1])).length) Slot.unset).toArray = ls at hl ⊢
  have hl : lv_has ls 5 [(0, .int x0), (1, .int x1)] := hl
  unfold f_X4_lasting at hF
  refine lv_bipush (v := 10) hx hb dX4_lasting_0 (by decide) ?_
  refine lv_iload_n hx hb dX4_lasting_2 rfl (lv_at hl 1 rfl) ?_
  refine lv_iadd hx hb dX4_lasting_3 ?_
  refine lv_istore_n (lv' := [(2, .int ((10 : Int32) + x1)), (0, .int x0), (1, .int x1)]) hx hb dX4_lasting_4 rfl hl (by decide) rfl (fun ls hl => ?_)
  refine lv_iload_n hx hb dX4_lasting_5 rfl (lv_at hl 0 rfl) ?_
  refine lv_iconst (v := 2) hx hb dX4_lasting_6 (by decide) ?_
  refine lv_idiv hx hb dX4_lasting_7 (by decide) ?_
  refine lv_istore_n (lv' := [(3, .int (((10 : Int32) + x1) / (2 : Int32))), (2, .int ((10 : Int32) + x1)), (0, .int x0), (1, .int x1)]) hx hb dX4_lasting_8 rfl hl (by decide) rfl (fun ls hl => ?_)
  refine lv_iconst (v := 4) hx hb dX4_lasting_9 (by decide) ?_
  refine lv_iload_n hx hb dX4_lasting_10 rfl (lv_at hl 1 rfl) ?_
  refine lv_imul hx hb dX4_lasting_11 ?_
  refine lv_istore (lv' := [(4, .int ((4 : Int32) * ((10 : Int32) + x1))), (3, .int (((10 : Int32) + x1) / (2 : Int32))), (2, .int ((10 : Int32) + x1)), (0, .int x0), (1, .int x1)]) hx hb dX4_lasting_12 hl (by decide) rfl (fun ls hl => ?_)
  refine lv_iload_n hx hb dX4_lasting_14 rfl (lv_at hl 3 rfl) ?_
  by_cases c1 : x0 = (1 : Int32)
  · have hF := ite_t c1 hF
    refine lv_tableIn (off := 41) (tgt := 56) hx hb dX4_lasting_15 (by rw [c1]; decide) (by rw [c1]; decide) (by rw [c1]; rfl) (by decide) ?_
    refine lv_iload_n hx hb dX4_lasting_56 rfl (lv_at hl 1 rfl) ?_
    exact e_iT hx hb hr hP hS hlocks dX4_lasting_57 hF
  · have hF := ite_f c1 hF
    by_cases c2 : x0 = (2 : Int32)
    · have hF := ite_t c2 hF
      refine lv_tableIn (off := 43) (tgt := 58) hx hb dX4_lasting_15 (by rw [c2]; decide) (by rw [c2]; decide) (by rw [c2]; rfl) (by decide) ?_
      refine lv_iload hx hb dX4_lasting_58 (lv_at hl 0 rfl) ?_
      exact e_iT hx hb hr hP hS hlocks dX4_lasting_60 hF
    · have hF := ite_f c2 hF
      by_cases c3 : x0 = (3 : Int32)
      · have hF := ite_t c3 hF
        refine lv_tableIn (off := 46) (tgt := 61) hx hb dX4_lasting_15 (by rw [c3]; decide) (by rw [c3]; decide) (by rw [c3]; rfl) (by decide) ?_
        refine lv_iload_n hx hb dX4_lasting_61 rfl (lv_at hl 2 rfl) ?_
        refine lv_bipush (v := 30) hx hb dX4_lasting_62 (by decide) ?_
        refine lv_iadd hx hb dX4_lasting_64 ?_
        exact e_iT hx hb hr hP hS hlocks dX4_lasting_65 hF
      · have hF := ite_f c3 hF
        by_cases c4 : x0 = (4 : Int32)
        · have hF := ite_t c4 hF
          refine lv_tableIn (off := 51) (tgt := 66) hx hb dX4_lasting_15 (by rw [c4]; decide) (by rw [c4]; decide) (by rw [c4]; rfl) (by decide) ?_
          refine lv_iload_n hx hb dX4_lasting_66 rfl (lv_at hl 4 rfl) ?_
          exact e_iT hx hb hr hP hS hlocks dX4_lasting_67 hF
        · have hF := ite_f c4 hF
          by_cases c5 : x0 = (5 : Int32)
          · have hF := ite_t c5 hF
            refine lv_tableIn (off := 53) (tgt := 68) hx hb dX4_lasting_15 (by rw [c5]; decide) (by rw [c5]; decide) (by rw [c5]; rfl) (by decide) ?_
            refine lv_iload_n hx hb dX4_lasting_68 rfl (lv_at hl 1 rfl) ?_
            refine lv_bipush (v := 20) hx hb dX4_lasting_69 (by decide) ?_
            refine lv_iadd hx hb dX4_lasting_71 ?_
            exact e_iT hx hb hr hP hS hlocks dX4_lasting_72 hF
          · have hF := ite_f c5 hF
            by_cases c6 : x0 = (6 : Int32)
            · have hF := ite_t c6 hF
              refine lv_tableIn (off := 58) (tgt := 73) hx hb dX4_lasting_15 (by rw [c6]; decide) (by rw [c6]; decide) (by rw [c6]; rfl) (by decide) ?_
              refine lv_iload hx hb dX4_lasting_73 (lv_at hl 0 rfl) ?_
              refine lv_iconst (v := 2) hx hb dX4_lasting_75 (by decide) ?_
              refine lv_idiv hx hb dX4_lasting_76 (by decide) ?_
              exact e_iT hx hb hr hP hS hlocks dX4_lasting_77 hF
            · have hF := ite_f c6 hF
              by_cases c7 : x0 = (7 : Int32)
              · have hF := ite_t c7 hF
                refine lv_tableIn (off := 63) (tgt := 78) hx hb dX4_lasting_15 (by rw [c7]; decide) (by rw [c7]; decide) (by rw [c7]; rfl) (by decide) ?_
                refine lv_iload_n hx hb dX4_lasting_78 rfl (lv_at hl 1 rfl) ?_
                refine lv_iconst (v := 1) hx hb dX4_lasting_79 (by decide) ?_
                refine lv_iadd hx hb dX4_lasting_80 ?_
                exact e_iT hx hb hr hP hS hlocks dX4_lasting_81 hF
              · have hF := ite_f c7 hF
                have n0 := lv_neT c1 (by decide : ((1 : Int32)).toInt = 1)
                have n1 := lv_neT c2 (by decide : ((2 : Int32)).toInt = 2)
                have n2 := lv_neT c3 (by decide : ((3 : Int32)).toInt = 3)
                have n3 := lv_neT c4 (by decide : ((4 : Int32)).toInt = 4)
                have n4 := lv_neT c5 (by decide : ((5 : Int32)).toInt = 5)
                have n5 := lv_neT c6 (by decide : ((6 : Int32)).toInt = 6)
                have n6 := lv_neT c7 (by decide : ((7 : Int32)).toInt = 7)
                refine lv_tableOut (tgt := 82) hx hb dX4_lasting_15 (by omega) (by decide) ?_
                refine lv_iload_n hx hb dX4_lasting_82 rfl (lv_at hl 2 rfl) ?_
                exact e_iT hx hb hr hP hS hlocks dX4_lasting_83 hF
def f_X4_lastingOwn (x0 : Int32) (x1 : Int32) : Int32 := (if x0 = (1 : Int32) then ((3 : Int32) * x1) else if x0 = (2 : Int32) then (x1 / (2 : Int32)) else if x0 = (3 : Int32) then x1 else if x0 = (4 : Int32) then x1 else if x0 = (5 : Int32) then ((365 : Int32)) else if x0 = (6 : Int32) then ((0 : Int32)) else if x0 = (7 : Int32) then ((3 : Int32) * x1) else x1)
set_option maxRecDepth 100000 in
set_option maxHeartbeats 4000000 in
theorem t_X4_lastingOwn (l : Launch) (G : GT) (hG : Dw G) (x0 : Int32) (x1 : Int32) (σ : St) : Ct l G yX4_lastingOwn wsX4_lastingOwn 0 0 [.int x0, .int x1] σ (some (.int (f_X4_lastingOwn x0 x1))) σ := by
  obtain ⟨o, hF⟩ : ∃ o, f_X4_lastingOwn x0 x1 = o := ⟨_, rfl⟩
  rw [hF]
  refine Met.ofW (cc := cX4_lastingOwn) (maxL := 2) (ret := (some .int)) (by decide) rfl ?_
  intro p e s m args below meth c s₁ B hml hv
  obtain ⟨rfl, hP, hK⟩ := hv
  have hx := B.exec
  have hb := B.bytes
  have hr := B.returns
  have hts := atoms_spec (ws := wsX4_lastingOwn) B.pre
  have hown : s.vm.findClass RX4 = some m.cls := findClass_of_methodNamed B.named
  have hlocks := B.notSynchronized
  have Z : CallFix p m c cX4_lastingOwn 2 s _ wsX4_lastingOwn RX4 := ⟨hx, hb, hml, hown, hts⟩
  have hS : va_S (AG G) s.heap s.heap [] := va_S.rf
  have hl := lv_entry ([.int x0, .int x1]) (n := 2) (Nat.le_of_ble_eq_true rfl)
  rw [lg_entry_eq]
  generalize (lg_sl ([.int x0, .int x1]) ++ List.replicate (2 - (lg_sl ([.int x0, .int x1])).length) Slot.unset).toArray = ls at hl ⊢
  have hl : lv_has ls 2 [(0, .int x0), (1, .int x1)] := hl
  unfold f_X4_lastingOwn at hF
  refine lv_iload_n hx hb dX4_lastingOwn_0 rfl (lv_at hl 0 rfl) ?_
  by_cases c1 : x0 = (1 : Int32)
  · have hF := ite_t c1 hF
    refine lv_tableIn (off := 43) (tgt := 44) hx hb dX4_lastingOwn_1 (by rw [c1]; decide) (by rw [c1]; decide) (by rw [c1]; rfl) (by decide) ?_
    refine lv_iconst (v := 3) hx hb dX4_lastingOwn_44 (by decide) ?_
    refine lv_iload_n hx hb dX4_lastingOwn_45 rfl (lv_at hl 1 rfl) ?_
    refine lv_imul hx hb dX4_lastingOwn_46 ?_
    exact e_iT hx hb hr hP hS hlocks dX4_lastingOwn_47 hF
  · have hF := ite_f c1 hF
    by_cases c2 : x0 = (2 : Int32)
    · have hF := ite_t c2 hF
      refine lv_tableIn (off := 47) (tgt := 48) hx hb dX4_lastingOwn_1 (by rw [c2]; decide) (by rw [c2]; decide) (by rw [c2]; rfl) (by decide) ?_
      refine lv_iload_n hx hb dX4_lastingOwn_48 rfl (lv_at hl 1 rfl) ?_
      refine lv_iconst (v := 2) hx hb dX4_lastingOwn_49 (by decide) ?_
      refine lv_idiv hx hb dX4_lastingOwn_50 (by decide) ?_
      exact e_iT hx hb hr hP hS hlocks dX4_lastingOwn_51 hF
    · have hF := ite_f c2 hF
      by_cases c3 : x0 = (3 : Int32)
      · have hF := ite_t c3 hF
        refine lv_tableIn (off := 57) (tgt := 58) hx hb dX4_lastingOwn_1 (by rw [c3]; decide) (by rw [c3]; decide) (by rw [c3]; rfl) (by decide) ?_
        refine lv_iload_n hx hb dX4_lastingOwn_58 rfl (lv_at hl 1 rfl) ?_
        exact e_iT hx hb hr hP hS hlocks dX4_lastingOwn_59 hF
      · have hF := ite_f c3 hF
        by_cases c4 : x0 = (4 : Int32)
        · have hF := ite_t c4 hF
          refine lv_tableIn (off := 57) (tgt := 58) hx hb dX4_lastingOwn_1 (by rw [c4]; decide) (by rw [c4]; decide) (by rw [c4]; rfl) (by decide) ?_
          refine lv_iload_n hx hb dX4_lastingOwn_58 rfl (lv_at hl 1 rfl) ?_
          exact e_iT hx hb hr hP hS hlocks dX4_lastingOwn_59 hF
        · have hF := ite_f c4 hF
          by_cases c5 : x0 = (5 : Int32)
          · have hF := ite_t c5 hF
            refine lv_tableIn (off := 51) (tgt := 52) hx hb dX4_lastingOwn_1 (by rw [c5]; decide) (by rw [c5]; decide) (by rw [c5]; rfl) (by decide) ?_
            refine lv_sipush (v := 365) hx hb dX4_lastingOwn_52 (by decide) ?_
            exact e_iT hx hb hr hP hS hlocks dX4_lastingOwn_55 hF
          · have hF := ite_f c5 hF
            by_cases c6 : x0 = (6 : Int32)
            · have hF := ite_t c6 hF
              refine lv_tableIn (off := 55) (tgt := 56) hx hb dX4_lastingOwn_1 (by rw [c6]; decide) (by rw [c6]; decide) (by rw [c6]; rfl) (by decide) ?_
              refine lv_iconst (v := 0) hx hb dX4_lastingOwn_56 (by decide) ?_
              exact e_iT hx hb hr hP hS hlocks dX4_lastingOwn_57 hF
            · have hF := ite_f c6 hF
              by_cases c7 : x0 = (7 : Int32)
              · have hF := ite_t c7 hF
                refine lv_tableIn (off := 43) (tgt := 44) hx hb dX4_lastingOwn_1 (by rw [c7]; decide) (by rw [c7]; decide) (by rw [c7]; rfl) (by decide) ?_
                refine lv_iconst (v := 3) hx hb dX4_lastingOwn_44 (by decide) ?_
                refine lv_iload_n hx hb dX4_lastingOwn_45 rfl (lv_at hl 1 rfl) ?_
                refine lv_imul hx hb dX4_lastingOwn_46 ?_
                exact e_iT hx hb hr hP hS hlocks dX4_lastingOwn_47 hF
              · have hF := ite_f c7 hF
                have n0 := lv_neT c1 (by decide : ((1 : Int32)).toInt = 1)
                have n1 := lv_neT c2 (by decide : ((2 : Int32)).toInt = 2)
                have n2 := lv_neT c3 (by decide : ((3 : Int32)).toInt = 3)
                have n3 := lv_neT c4 (by decide : ((4 : Int32)).toInt = 4)
                have n4 := lv_neT c5 (by decide : ((5 : Int32)).toInt = 5)
                have n5 := lv_neT c6 (by decide : ((6 : Int32)).toInt = 6)
                have n6 := lv_neT c7 (by decide : ((7 : Int32)).toInt = 7)
                refine lv_tableOut (tgt := 58) hx hb dX4_lastingOwn_1 (by omega) (by decide) ?_
                refine lv_iload_n hx hb dX4_lastingOwn_58 rfl (lv_at hl 1 rfl) ?_
                exact e_iT hx hb hr hP hS hlocks dX4_lastingOwn_59 hF
def f_X4_size (x0 : Int32) (x1 : Int32) : Int32 := (if x0 = (1 : Int32) then ((10 : Int32) - (4 : Int32)) else if x0 = (2 : Int32) then ((10 : Int32) + (2 : Int32)) else if x0 = (3 : Int32) then ((10 : Int32)) else if x0 = (4 : Int32) then x1 else if x0 = (5 : Int32) then ((2 : Int32) * ((10 : Int32) - (4 : Int32))) else if x0 = (6 : Int32) then ((10 : Int32) + (2 : Int32)) else if x0 = (7 : Int32) then (((10 : Int32) - (4 : Int32)) - (1 : Int32)) else ((10 : Int32)))
set_option maxRecDepth 100000 in
set_option maxHeartbeats 4000000 in
theorem t_X4_size (l : Launch) (G : GT) (hG : Dw G) (x0 : Int32) (x1 : Int32) (σ : St) : Ct l G yX4_size wsX4_size 0 0 [.int x0, .int x1] σ (some (.int (f_X4_size x0 x1))) σ := by
  obtain ⟨o, hF⟩ : ∃ o, f_X4_size x0 x1 = o := ⟨_, rfl⟩
  rw [hF]
  refine Met.ofW (cc := cX4_size) (maxL := 4) (ret := (some .int)) (by decide) rfl ?_
  intro p e s m args below meth c s₁ B hml hv
  obtain ⟨rfl, hP, hK⟩ := hv
  have hx := B.exec
  have hb := B.bytes
  have hr := B.returns
  have hts := atoms_spec (ws := wsX4_size) B.pre
  have hown : s.vm.findClass RX4 = some m.cls := findClass_of_methodNamed B.named
  have hlocks := B.notSynchronized
  have Z : CallFix p m c cX4_size 4 s _ wsX4_size RX4 := ⟨hx, hb, hml, hown, hts⟩
  have hS : va_S (AG G) s.heap s.heap [] := va_S.rf
  have hl := lv_entry ([.int x0, .int x1]) (n := 4) (Nat.le_of_ble_eq_true rfl)
  rw [lg_entry_eq]
  generalize (lg_sl ([.int x0, .int x1]) ++ List.replicate (4 - (lg_sl ([.int x0, .int x1])).length) Slot.unset).toArray = ls at hl ⊢
  have hl : lv_has ls 4 [(0, .int x0), (1, .int x1)] := hl
  unfold f_X4_size at hF
  refine lv_bipush (v := 10) hx hb dX4_size_0 (by decide) ?_
  refine lv_istore_n (lv' := [(2, .int (10 : Int32)), (0, .int x0), (1, .int x1)]) hx hb dX4_size_2 rfl hl (by decide) rfl (fun ls hl => ?_)
  refine lv_iload_n hx hb dX4_size_3 rfl (lv_at hl 0 rfl) ?_
  refine lv_iconst (v := 4) hx hb dX4_size_4 (by decide) ?_
  refine lv_isub hx hb dX4_size_5 ?_
  refine lv_istore_n (lv' := [(3, .int ((10 : Int32) - (4 : Int32))), (2, .int (10 : Int32)), (0, .int x0), (1, .int x1)]) hx hb dX4_size_6 rfl hl (by decide) rfl (fun ls hl => ?_)
  refine lv_iload_n hx hb dX4_size_7 rfl (lv_at hl 2 rfl) ?_
  by_cases c1 : x0 = (1 : Int32)
  · have hF := ite_t c1 hF
    refine lv_tableIn (off := 44) (tgt := 52) hx hb dX4_size_8 (by rw [c1]; decide) (by rw [c1]; decide) (by rw [c1]; rfl) (by decide) ?_
    refine lv_iload_n hx hb dX4_size_52 rfl (lv_at hl 0 rfl) ?_
    exact e_iT hx hb hr hP hS hlocks dX4_size_53 hF
  · have hF := ite_f c1 hF
    by_cases c2 : x0 = (2 : Int32)
    · have hF := ite_t c2 hF
      refine lv_tableIn (off := 46) (tgt := 54) hx hb dX4_size_8 (by rw [c2]; decide) (by rw [c2]; decide) (by rw [c2]; rfl) (by decide) ?_
      refine lv_iload_n hx hb dX4_size_54 rfl (lv_at hl 1 rfl) ?_
      refine lv_iconst (v := 2) hx hb dX4_size_55 (by decide) ?_
      refine lv_iadd hx hb dX4_size_56 ?_
      exact e_iT hx hb hr hP hS hlocks dX4_size_57 hF
    · have hF := ite_f c2 hF
      by_cases c3 : x0 = (3 : Int32)
      · have hF := ite_t c3 hF
        refine lv_tableIn (off := 60) (tgt := 68) hx hb dX4_size_8 (by rw [c3]; decide) (by rw [c3]; decide) (by rw [c3]; rfl) (by decide) ?_
        refine lv_iload_n hx hb dX4_size_68 rfl (lv_at hl 1 rfl) ?_
        exact e_iT hx hb hr hP hS hlocks dX4_size_69 hF
      · have hF := ite_f c3 hF
        by_cases c4 : x0 = (4 : Int32)
        · have hF := ite_t c4 hF
          refine lv_tableIn (off := 50) (tgt := 58) hx hb dX4_size_8 (by rw [c4]; decide) (by rw [c4]; decide) (by rw [c4]; rfl) (by decide) ?_
          refine lv_iload_n hx hb dX4_size_58 rfl (lv_at hl 3 rfl) ?_
          exact e_iT hx hb hr hP hS hlocks dX4_size_59 hF
        · have hF := ite_f c4 hF
          by_cases c5 : x0 = (5 : Int32)
          · have hF := ite_t c5 hF
            refine lv_tableIn (off := 52) (tgt := 60) hx hb dX4_size_8 (by rw [c5]; decide) (by rw [c5]; decide) (by rw [c5]; rfl) (by decide) ?_
            refine lv_iconst (v := 2) hx hb dX4_size_60 (by decide) ?_
            refine lv_iload_n hx hb dX4_size_61 rfl (lv_at hl 0 rfl) ?_
            refine lv_imul hx hb dX4_size_62 ?_
            exact e_iT hx hb hr hP hS hlocks dX4_size_63 hF
          · have hF := ite_f c5 hF
            by_cases c6 : x0 = (6 : Int32)
            · have hF := ite_t c6 hF
              refine lv_tableIn (off := 46) (tgt := 54) hx hb dX4_size_8 (by rw [c6]; decide) (by rw [c6]; decide) (by rw [c6]; rfl) (by decide) ?_
              refine lv_iload_n hx hb dX4_size_54 rfl (lv_at hl 1 rfl) ?_
              refine lv_iconst (v := 2) hx hb dX4_size_55 (by decide) ?_
              refine lv_iadd hx hb dX4_size_56 ?_
              exact e_iT hx hb hr hP hS hlocks dX4_size_57 hF
            · have hF := ite_f c6 hF
              by_cases c7 : x0 = (7 : Int32)
              · have hF := ite_t c7 hF
                refine lv_tableIn (off := 56) (tgt := 64) hx hb dX4_size_8 (by rw [c7]; decide) (by rw [c7]; decide) (by rw [c7]; rfl) (by decide) ?_
                refine lv_iload_n hx hb dX4_size_64 rfl (lv_at hl 0 rfl) ?_
                refine lv_iconst (v := 1) hx hb dX4_size_65 (by decide) ?_
                refine lv_isub hx hb dX4_size_66 ?_
                exact e_iT hx hb hr hP hS hlocks dX4_size_67 hF
              · have hF := ite_f c7 hF
                have n0 := lv_neT c1 (by decide : ((1 : Int32)).toInt = 1)
                have n1 := lv_neT c2 (by decide : ((2 : Int32)).toInt = 2)
                have n2 := lv_neT c3 (by decide : ((3 : Int32)).toInt = 3)
                have n3 := lv_neT c4 (by decide : ((4 : Int32)).toInt = 4)
                have n4 := lv_neT c5 (by decide : ((5 : Int32)).toInt = 5)
                have n5 := lv_neT c6 (by decide : ((6 : Int32)).toInt = 6)
                have n6 := lv_neT c7 (by decide : ((7 : Int32)).toInt = 7)
                refine lv_tableOut (tgt := 68) hx hb dX4_size_8 (by omega) (by decide) ?_
                refine lv_iload_n hx hb dX4_size_68 rfl (lv_at hl 1 rfl) ?_
                exact e_iT hx hb hr hP hS hlocks dX4_size_69 hF
def f_X4_burden (x0 : Int32) (x1 : Int32) : Int32 := (if x0 = (1 : Int32) then ((0 : Int32) - (1 : Int32)) else if x0 = (2 : Int32) then (x1 + (1 : Int32)) else if x0 = (3 : Int32) then ((0 : Int32)) else if x0 = (4 : Int32) then ((0 : Int32)) else if x0 = (5 : Int32) then (((0 : Int32) - (1 : Int32)) - (2 : Int32)) else if x0 = (6 : Int32) then ((2 : Int32) * (x1 + (1 : Int32))) else if x0 = (7 : Int32) then ((0 : Int32) - (1 : Int32)) else ((0 : Int32)))
set_option maxRecDepth 100000 in
set_option maxHeartbeats 4000000 in
theorem t_X4_burden (l : Launch) (G : GT) (hG : Dw G) (x0 : Int32) (x1 : Int32) (σ : St) : Ct l G yX4_burden wsX4_burden 0 0 [.int x0, .int x1] σ (some (.int (f_X4_burden x0 x1))) σ := by
  obtain ⟨o, hF⟩ : ∃ o, f_X4_burden x0 x1 = o := ⟨_, rfl⟩
  rw [hF]
  refine Met.ofW (cc := cX4_burden) (maxL := 5) (ret := (some .int)) (by decide) rfl ?_
  intro p e s m args below meth c s₁ B hml hv
  obtain ⟨rfl, hP, hK⟩ := hv
  have hx := B.exec
  have hb := B.bytes
  have hr := B.returns
  have hts := atoms_spec (ws := wsX4_burden) B.pre
  have hown : s.vm.findClass RX4 = some m.cls := findClass_of_methodNamed B.named
  have hlocks := B.notSynchronized
  have Z : CallFix p m c cX4_burden 5 s _ wsX4_burden RX4 := ⟨hx, hb, hml, hown, hts⟩
  have hS : va_S (AG G) s.heap s.heap [] := va_S.rf
  have hl := lv_entry ([.int x0, .int x1]) (n := 5) (Nat.le_of_ble_eq_true rfl)
  rw [lg_entry_eq]
  generalize (lg_sl ([.int x0, .int x1]) ++ List.replicate (5 - (lg_sl ([.int x0, .int x1])).length) Slot.unset).toArray = ls at hl ⊢
  have hl : lv_has ls 5 [(0, .int x0), (1, .int x1)] := hl
  unfold f_X4_burden at hF
  refine lv_iconst (v := 0) hx hb dX4_burden_0 (by decide) ?_
  refine lv_istore_n (lv' := [(2, .int (0 : Int32)), (0, .int x0), (1, .int x1)]) hx hb dX4_burden_1 rfl hl (by decide) rfl (fun ls hl => ?_)
  refine lv_iload_n hx hb dX4_burden_2 rfl (lv_at hl 0 rfl) ?_
  refine lv_iconst (v := 1) hx hb dX4_burden_3 (by decide) ?_
  refine lv_isub hx hb dX4_burden_4 ?_
  refine lv_istore_n (lv' := [(3, .int ((0 : Int32) - (1 : Int32))), (2, .int (0 : Int32)), (0, .int x0), (1, .int x1)]) hx hb dX4_burden_5 rfl hl (by decide) rfl (fun ls hl => ?_)
  refine lv_iload_n hx hb dX4_burden_6 rfl (lv_at hl 3 rfl) ?_
  refine lv_iconst (v := 1) hx hb dX4_burden_7 (by decide) ?_
  refine lv_iadd hx hb dX4_burden_8 ?_
  refine lv_istore (lv' := [(4, .int (x1 + (1 : Int32))), (3, .int ((0 : Int32) - (1 : Int32))), (2, .int (0 : Int32)), (0, .int x0), (1, .int x1)]) hx hb dX4_burden_9 hl (by decide) rfl (fun ls hl => ?_)
  refine lv_iload_n hx hb dX4_burden_11 rfl (lv_at hl 3 rfl) ?_
  by_cases c1 : x0 = (1 : Int32)
  · have hF := ite_t c1 hF
    refine lv_tableIn (off := 44) (tgt := 56) hx hb dX4_burden_12 (by rw [c1]; decide) (by rw [c1]; decide) (by rw [c1]; rfl) (by decide) ?_
    refine lv_iload_n hx hb dX4_burden_56 rfl (lv_at hl 1 rfl) ?_
    exact e_iT hx hb hr hP hS hlocks dX4_burden_57 hF
  · have hF := ite_f c1 hF
    by_cases c2 : x0 = (2 : Int32)
    · have hF := ite_t c2 hF
      refine lv_tableIn (off := 46) (tgt := 58) hx hb dX4_burden_12 (by rw [c2]; decide) (by rw [c2]; decide) (by rw [c2]; rfl) (by decide) ?_
      refine lv_iload hx hb dX4_burden_58 (lv_at hl 0 rfl) ?_
      exact e_iT hx hb hr hP hS hlocks dX4_burden_60 hF
    · have hF := ite_f c2 hF
      by_cases c3 : x0 = (3 : Int32)
      · have hF := ite_t c3 hF
        refine lv_tableIn (off := 58) (tgt := 70) hx hb dX4_burden_12 (by rw [c3]; decide) (by rw [c3]; decide) (by rw [c3]; rfl) (by decide) ?_
        refine lv_iload_n hx hb dX4_burden_70 rfl (lv_at hl 2 rfl) ?_
        exact e_iT hx hb hr hP hS hlocks dX4_burden_71 hF
      · have hF := ite_f c3 hF
        by_cases c4 : x0 = (4 : Int32)
        · have hF := ite_t c4 hF
          refine lv_tableIn (off := 58) (tgt := 70) hx hb dX4_burden_12 (by rw [c4]; decide) (by rw [c4]; decide) (by rw [c4]; rfl) (by decide) ?_
          refine lv_iload_n hx hb dX4_burden_70 rfl (lv_at hl 2 rfl) ?_
          exact e_iT hx hb hr hP hS hlocks dX4_burden_71 hF
        · have hF := ite_f c4 hF
          by_cases c5 : x0 = (5 : Int32)
          · have hF := ite_t c5 hF
            refine lv_tableIn (off := 49) (tgt := 61) hx hb dX4_burden_12 (by rw [c5]; decide) (by rw [c5]; decide) (by rw [c5]; rfl) (by decide) ?_
            refine lv_iload_n hx hb dX4_burden_61 rfl (lv_at hl 1 rfl) ?_
            refine lv_iconst (v := 2) hx hb dX4_burden_62 (by decide) ?_
            refine lv_isub hx hb dX4_burden_63 ?_
            exact e_iT hx hb hr hP hS hlocks dX4_burden_64 hF
          · have hF := ite_f c5 hF
            by_cases c6 : x0 = (6 : Int32)
            · have hF := ite_t c6 hF
              refine lv_tableIn (off := 53) (tgt := 65) hx hb dX4_burden_12 (by rw [c6]; decide) (by rw [c6]; decide) (by rw [c6]; rfl) (by decide) ?_
              refine lv_iconst (v := 2) hx hb dX4_burden_65 (by decide) ?_
              refine lv_iload hx hb dX4_burden_66 (lv_at hl 0 rfl) ?_
              refine lv_imul hx hb dX4_burden_68 ?_
              exact e_iT hx hb hr hP hS hlocks dX4_burden_69 hF
            · have hF := ite_f c6 hF
              by_cases c7 : x0 = (7 : Int32)
              · have hF := ite_t c7 hF
                refine lv_tableIn (off := 44) (tgt := 56) hx hb dX4_burden_12 (by rw [c7]; decide) (by rw [c7]; decide) (by rw [c7]; rfl) (by decide) ?_
                refine lv_iload_n hx hb dX4_burden_56 rfl (lv_at hl 1 rfl) ?_
                exact e_iT hx hb hr hP hS hlocks dX4_burden_57 hF
              · have hF := ite_f c7 hF
                have n0 := lv_neT c1 (by decide : ((1 : Int32)).toInt = 1)
                have n1 := lv_neT c2 (by decide : ((2 : Int32)).toInt = 2)
                have n2 := lv_neT c3 (by decide : ((3 : Int32)).toInt = 3)
                have n3 := lv_neT c4 (by decide : ((4 : Int32)).toInt = 4)
                have n4 := lv_neT c5 (by decide : ((5 : Int32)).toInt = 5)
                have n5 := lv_neT c6 (by decide : ((6 : Int32)).toInt = 6)
                have n6 := lv_neT c7 (by decide : ((7 : Int32)).toInt = 7)
                refine lv_tableOut (tgt := 70) hx hb dX4_burden_12 (by omega) (by decide) ?_
                refine lv_iload_n hx hb dX4_burden_70 rfl (lv_at hl 2 rfl) ?_
                exact e_iT hx hb hr hP hS hlocks dX4_burden_71 hF
def f_X4_expense (x0 : Int32) (x1 : Int32) : Int32 := (if x0 = (1 : Int32) then ((3 : Int32) + x1) else if x0 = (2 : Int32) then ((7 : Int32)) else if x0 = (3 : Int32) then ((3 : Int32) + (2 : Int32)) else if x0 = (4 : Int32) then ((1 : Int32)) else if x0 = (5 : Int32) then (((3 : Int32) + x1) + (5 : Int32)) else if x0 = (6 : Int32) then ((7 : Int32) / (2 : Int32)) else if x0 = (7 : Int32) then ((2 : Int32) * ((3 : Int32) + x1)) else ((3 : Int32)))
set_option maxRecDepth 100000 in
set_option maxHeartbeats 4000000 in
theorem t_X4_expense (l : Launch) (G : GT) (hG : Dw G) (x0 : Int32) (x1 : Int32) (σ : St) : Ct l G yX4_expense wsX4_expense 0 0 [.int x0, .int x1] σ (some (.int (f_X4_expense x0 x1))) σ := by
  obtain ⟨o, hF⟩ : ∃ o, f_X4_expense x0 x1 = o := ⟨_, rfl⟩
  rw [hF]
  refine Met.ofW (cc := cX4_expense) (maxL := 5) (ret := (some .int)) (by decide) rfl ?_
  intro p e s m args below meth c s₁ B hml hv
  obtain ⟨rfl, hP, hK⟩ := hv
  have hx := B.exec
  have hb := B.bytes
  have hr := B.returns
  have hts := atoms_spec (ws := wsX4_expense) B.pre
  have hown : s.vm.findClass RX4 = some m.cls := findClass_of_methodNamed B.named
  have hlocks := B.notSynchronized
  have Z : CallFix p m c cX4_expense 5 s _ wsX4_expense RX4 := ⟨hx, hb, hml, hown, hts⟩
  have hS : va_S (AG G) s.heap s.heap [] := va_S.rf
  have hl := lv_entry ([.int x0, .int x1]) (n := 5) (Nat.le_of_ble_eq_true rfl)
  rw [lg_entry_eq]
  generalize (lg_sl ([.int x0, .int x1]) ++ List.replicate (5 - (lg_sl ([.int x0, .int x1])).length) Slot.unset).toArray = ls at hl ⊢
  have hl : lv_has ls 5 [(0, .int x0), (1, .int x1)] := hl
  unfold f_X4_expense at hF
  refine lv_iconst (v := 3) hx hb dX4_expense_0 (by decide) ?_
  refine lv_istore_n (lv' := [(2, .int (3 : Int32)), (0, .int x0), (1, .int x1)]) hx hb dX4_expense_1 rfl hl (by decide) rfl (fun ls hl => ?_)
  refine lv_iload_n hx hb dX4_expense_2 rfl (lv_at hl 0 rfl) ?_
  refine lv_iload_n hx hb dX4_expense_3 rfl (lv_at hl 2 rfl) ?_
  refine lv_iadd hx hb dX4_expense_4 ?_
  refine lv_istore_n (lv' := [(3, .int ((3 : Int32) + x1)), (2, .int (3 : Int32)), (0, .int x0), (1, .int x1)]) hx hb dX4_expense_5 rfl hl (by decide) rfl (fun ls hl => ?_)
  refine lv_bipush (v := 7) hx hb dX4_expense_6 (by decide) ?_
  refine lv_istore (lv' := [(4, .int (7 : Int32)), (3, .int ((3 : Int32) + x1)), (2, .int (3 : Int32)), (0, .int x0), (1, .int x1)]) hx hb dX4_expense_8 hl (by decide) rfl (fun ls hl => ?_)
  refine lv_iload_n hx hb dX4_expense_10 rfl (lv_at hl 3 rfl) ?_
  by_cases c1 : x0 = (1 : Int32)
  · have hF := ite_t c1 hF
    refine lv_tableIn (off := 41) (tgt := 52) hx hb dX4_expense_11 (by rw [c1]; decide) (by rw [c1]; decide) (by rw [c1]; rfl) (by decide) ?_
    refine lv_iload_n hx hb dX4_expense_52 rfl (lv_at hl 1 rfl) ?_
    exact e_iT hx hb hr hP hS hlocks dX4_expense_53 hF
  · have hF := ite_f c1 hF
    by_cases c2 : x0 = (2 : Int32)
    · have hF := ite_t c2 hF
      refine lv_tableIn (off := 43) (tgt := 54) hx hb dX4_expense_11 (by rw [c2]; decide) (by rw [c2]; decide) (by rw [c2]; rfl) (by decide) ?_
      refine lv_iload hx hb dX4_expense_54 (lv_at hl 0 rfl) ?_
      exact e_iT hx hb hr hP hS hlocks dX4_expense_56 hF
    · have hF := ite_f c2 hF
      by_cases c3 : x0 = (3 : Int32)
      · have hF := ite_t c3 hF
        refine lv_tableIn (off := 46) (tgt := 57) hx hb dX4_expense_11 (by rw [c3]; decide) (by rw [c3]; decide) (by rw [c3]; rfl) (by decide) ?_
        refine lv_iload_n hx hb dX4_expense_57 rfl (lv_at hl 2 rfl) ?_
        refine lv_iconst (v := 2) hx hb dX4_expense_58 (by decide) ?_
        refine lv_iadd hx hb dX4_expense_59 ?_
        exact e_iT hx hb hr hP hS hlocks dX4_expense_60 hF
      · have hF := ite_f c3 hF
        by_cases c4 : x0 = (4 : Int32)
        · have hF := ite_t c4 hF
          refine lv_tableIn (off := 50) (tgt := 61) hx hb dX4_expense_11 (by rw [c4]; decide) (by rw [c4]; decide) (by rw [c4]; rfl) (by decide) ?_
          refine lv_iconst (v := 1) hx hb dX4_expense_61 (by decide) ?_
          exact e_iT hx hb hr hP hS hlocks dX4_expense_62 hF
        · have hF := ite_f c4 hF
          by_cases c5 : x0 = (5 : Int32)
          · have hF := ite_t c5 hF
            refine lv_tableIn (off := 52) (tgt := 63) hx hb dX4_expense_11 (by rw [c5]; decide) (by rw [c5]; decide) (by rw [c5]; rfl) (by decide) ?_
            refine lv_iload_n hx hb dX4_expense_63 rfl (lv_at hl 1 rfl) ?_
            refine lv_iconst (v := 5) hx hb dX4_expense_64 (by decide) ?_
            refine lv_iadd hx hb dX4_expense_65 ?_
            exact e_iT hx hb hr hP hS hlocks dX4_expense_66 hF
          · have hF := ite_f c5 hF
            by_cases c6 : x0 = (6 : Int32)
            · have hF := ite_t c6 hF
              refine lv_tableIn (off := 56) (tgt := 67) hx hb dX4_expense_11 (by rw [c6]; decide) (by rw [c6]; decide) (by rw [c6]; rfl) (by decide) ?_
              refine lv_iload hx hb dX4_expense_67 (lv_at hl 0 rfl) ?_
              refine lv_iconst (v := 2) hx hb dX4_expense_69 (by decide) ?_
              refine lv_idiv hx hb dX4_expense_70 (by decide) ?_
              exact e_iT hx hb hr hP hS hlocks dX4_expense_71 hF
            · have hF := ite_f c6 hF
              by_cases c7 : x0 = (7 : Int32)
              · have hF := ite_t c7 hF
                refine lv_tableIn (off := 61) (tgt := 72) hx hb dX4_expense_11 (by rw [c7]; decide) (by rw [c7]; decide) (by rw [c7]; rfl) (by decide) ?_
                refine lv_iconst (v := 2) hx hb dX4_expense_72 (by decide) ?_
                refine lv_iload_n hx hb dX4_expense_73 rfl (lv_at hl 1 rfl) ?_
                refine lv_imul hx hb dX4_expense_74 ?_
                exact e_iT hx hb hr hP hS hlocks dX4_expense_75 hF
              · have hF := ite_f c7 hF
                have n0 := lv_neT c1 (by decide : ((1 : Int32)).toInt = 1)
                have n1 := lv_neT c2 (by decide : ((2 : Int32)).toInt = 2)
                have n2 := lv_neT c3 (by decide : ((3 : Int32)).toInt = 3)
                have n3 := lv_neT c4 (by decide : ((4 : Int32)).toInt = 4)
                have n4 := lv_neT c5 (by decide : ((5 : Int32)).toInt = 5)
                have n5 := lv_neT c6 (by decide : ((6 : Int32)).toInt = 6)
                have n6 := lv_neT c7 (by decide : ((7 : Int32)).toInt = 7)
                refine lv_tableOut (tgt := 76) hx hb dX4_expense_11 (by omega) (by decide) ?_
                refine lv_iload_n hx hb dX4_expense_76 rfl (lv_at hl 2 rfl) ?_
                exact e_iT hx hb hr hP hS hlocks dX4_expense_77 hF
def f_X3_commonDivisor_9 (x0 : Int64) (x2 : Int64) (σ : St) : Nat → (Int64 → Int64 → Int32 → Option Int64)
  | 0 => fun _ _ _ => none
  | fl + 1 => fun v4 v6 v8 => (if (200 : Int32) ≤ v8 then (some v4) else (if (lg_cmp v6 (0 : Int64)) = 0 then (some v4) else (if ¬ v6 = 0 then (f_X3_commonDivisor_9 x0 x2 σ fl) v6 (v4 - v4 / v6 * v6) (v8 + (1 : Int32)) else none)))
theorem f_X3_commonDivisor_9_s {x0 : Int64} {x2 : Int64} {σ : St} (fl : Nat) {v4 : Int64} {v6 : Int64} {v8 : Int32} : f_X3_commonDivisor_9 x0 x2 σ (fl + 1) v4 v6 v8 = (if (200 : Int32) ≤ v8 then (some v4) else (if (lg_cmp v6 (0 : Int64)) = 0 then (some v4) else (if ¬ v6 = 0 then (f_X3_commonDivisor_9 x0 x2 σ fl) v6 (v4 - v4 / v6 * v6) (v8 + (1 : Int32)) else none))) := rfl
def f_X3_commonDivisor (x0 : Int64) (x2 : Int64) (σ : St) : Option Int64 := (f_X3_commonDivisor_9 x0 x2 σ fu x0 x2 (0 : Int32))
set_option maxRecDepth 100000 in
set_option maxHeartbeats 4000000 in
theorem t_X3_commonDivisor (l : Launch) (G : GT) (hG : Dw G) (x0 : Int64) (x2 : Int64) (σ : St) (o : Int64) (hF : f_X3_commonDivisor x0 x2 σ = some o) : Ct l G yX3_commonDivisor wsX3_commonDivisor 0 0 [.long x0, .long x2] σ (some (.long o)) σ := by
  refine Met.ofW (cc := cX3_commonDivisor) (maxL := 11) (ret := (some .long)) (by decide) rfl ?_
  intro p e s m args below meth c s₁ B hml hv
  obtain ⟨rfl, hP, hK⟩ := hv
  have hx := B.exec
  have hb := B.bytes
  have hr := B.returns
  have hts := atoms_spec (ws := wsX3_commonDivisor) B.pre
  have hown : s.vm.findClass RX3 = some m.cls := findClass_of_methodNamed B.named
  have hlocks := B.notSynchronized
  have Z : CallFix p m c cX3_commonDivisor 11 s _ wsX3_commonDivisor RX3 := ⟨hx, hb, hml, hown, hts⟩
  have hS : va_S (AG G) s.heap s.heap [] := va_S.rf
  have hl := lv_entry ([.long x0, .long x2]) (n := 11) (Nat.le_of_ble_eq_true rfl)
  rw [lg_entry_eq]
  generalize (lg_sl ([.long x0, .long x2]) ++ List.replicate (11 - (lg_sl ([.long x0, .long x2])).length) Slot.unset).toArray = ls at hl ⊢
  have hl : lv_has ls 11 [(0, .long x0), (2, .long x2)] := hl
  unfold f_X3_commonDivisor at hF
  refine lv_lload_n hx hb dX3_commonDivisor_0 rfl (lv_at hl 0 rfl) ?_
  refine lv_lstore (lv' := [(4, .long x0), (0, .long x0), (2, .long x2)]) hx hb dX3_commonDivisor_1 hl (by decide) rfl (fun ls hl => ?_)
  refine lv_lload_n hx hb dX3_commonDivisor_3 rfl (lv_at hl 2 rfl) ?_
  refine lv_lstore (lv' := [(6, .long x2), (4, .long x0), (0, .long x0), (2, .long x2)]) hx hb dX3_commonDivisor_4 hl (by decide) rfl (fun ls hl => ?_)
  refine lv_iconst (v := 0) hx hb dX3_commonDivisor_6 (by decide) ?_
  have J9 : ∀ (fl : Nat) (v4 : Int64) (v6 : Int64) (v8 : Int32) (H : Heap) (locs : List Loc) (hP : Pw G σ H) (hS : va_S (AG G) s.heap H locs) (ls : Array Slot) (hl : lv_has ls 11 [(0, .long x0), (2, .long x2), (4, .long v4), (6, .long v6), (8, .int v8)]) (hF : f_X3_commonDivisor_9 x0 x2 σ fl v4 v6 v8 = some o), W p l e (headSpec wsX3_commonDivisor ({ frames := 0, cells := 0, slots := 0, locals := 0 })).room s m ([.long x0, .long x2] : List Value).toArray below meth c H locs 0 0 (MQ below (qR G (some (.long o)) σ) ([.long x0, .long x2] : List Value).toArray s 0 0 (AG G)) (F0 m 9 ls []) := by
    intro fl9
    induction fl9 with
    | zero => intro v4 v6 v8 H locs hP hS ls hl hF; cases hF
    | succ fl9 ih9 =>
      intro v4 v6 v8 H locs hP hS ls hl hF
      rw [f_X3_commonDivisor_9_s] at hF
      refine lv_iload hx hb dX3_commonDivisor_9 (lv_at hl 4 rfl) ?_
      refine lv_sipush (v := 200) hx hb dX3_commonDivisor_11 (by decide) ?_
      refine lv_icmp_ge (tgt := 45) hx hb dX3_commonDivisor_14 (by decide) (fun c1 => ?_) (fun c1 => ?_)
      · have hF := ite_t c1 hF
        refine lv_lload hx hb dX3_commonDivisor_45 (lv_at hl 2 rfl) ?_
        exact e_lP hx hb hr hP hS hlocks dX3_commonDivisor_47 hF
      · have hF := ite_f c1 hF
        refine lv_lload hx hb dX3_commonDivisor_17 (lv_at hl 3 rfl) ?_
        refine lv_lconst (v := 0) hx hb dX3_commonDivisor_19 (by decide) ?_
        refine W.lcmp hx hb dX3_commonDivisor_20 ?_
        refine lv_if_eq (tgt := 45) hx hb dX3_commonDivisor_21 (by decide) (fun c2 => ?_) (fun c2 => ?_)
        · have hF := ite_t c2 hF
          refine lv_lload hx hb dX3_commonDivisor_45 (lv_at hl 2 rfl) ?_
          exact e_lP hx hb hr hP hS hlocks dX3_commonDivisor_47 hF
        · have hF := ite_f c2 hF
          refine lv_lload hx hb dX3_commonDivisor_24 (lv_at hl 2 rfl) ?_
          refine lv_lload hx hb dX3_commonDivisor_26 (lv_at hl 3 rfl) ?_
          obtain ⟨b3, hF⟩ := ite_some hF
          refine lv_lrem hx hb dX3_commonDivisor_28 b3 ?_
          refine lv_lstore (lv' := [(9, .long (v4 - v4 / v6 * v6)), (0, .long x0), (2, .long x2), (4, .long v4), (6, .long v6), (8, .int v8)]) hx hb dX3_commonDivisor_29 hl (by decide) rfl (fun ls hl => ?_)
          refine lv_lload hx hb dX3_commonDivisor_31 (lv_at hl 4 rfl) ?_
          refine lv_lstore (lv' := [(4, .long v6), (9, .long (v4 - v4 / v6 * v6)), (0, .long x0), (2, .long x2), (6, .long v6), (8, .int v8)]) hx hb dX3_commonDivisor_33 hl (by decide) rfl (fun ls hl => ?_)
          refine lv_lload hx hb dX3_commonDivisor_35 (lv_at hl 1 rfl) ?_
          refine lv_lstore (lv' := [(6, .long (v4 - v4 / v6 * v6)), (4, .long v6), (9, .long (v4 - v4 / v6 * v6)), (0, .long x0), (2, .long x2), (8, .int v8)]) hx hb dX3_commonDivisor_37 hl (by decide) rfl (fun ls hl => ?_)
          refine lv_iinc (v := (v8 + (1 : Int32))) (lv' := [(8, .int (v8 + (1 : Int32))), (6, .long (v4 - v4 / v6 * v6)), (4, .long v6), (9, .long (v4 - v4 / v6 * v6)), (0, .long x0), (2, .long x2)]) hx hb dX3_commonDivisor_39 hl (k := 5) rfl rfl (by decide) rfl (fun ls hl => ?_)
          refine lv_goto (tgt := 9) hx hb dX3_commonDivisor_42 (by decide) ?_
          exact ih9 v6 (v4 - v4 / v6 * v6) (v8 + (1 : Int32)) _ _ hP hS ls (lv_sub hl [4, 5, 2, 1, 0] rfl) hF
  refine lv_istore (lv' := [(8, .int (0 : Int32)), (6, .long x2), (4, .long x0), (0, .long x0), (2, .long x2)]) hx hb dX3_commonDivisor_7 hl (by decide) rfl (fun ls hl => ?_)
  exact J9 fu x0 x2 (0 : Int32) _ _ hP hS ls (lv_sub hl [3, 4, 2, 1, 0] rfl) hF
def f_X3_inLeastTerms_17 (x0 : Int64) (x2 : Int64) (x4 : Int32) (σ : St) (v5 : Int64) (z0 : Int64) : Option Int64 := (if (lg_cmp v5 (0 : Int64)) = 0 then (some z0) else (if ¬ v5 = 0 then some (z0 / v5) else none))
theorem f_X3_inLeastTerms_17_e {x0 : Int64} {x2 : Int64} {x4 : Int32} {σ : St} {v5 : Int64} {z0 : Int64} : f_X3_inLeastTerms_17 x0 x2 x4 σ v5 z0 = (if (lg_cmp v5 (0 : Int64)) = 0 then (some z0) else (if ¬ v5 = 0 then some (z0 / v5) else none)) := rfl
def f_X3_inLeastTerms (x0 : Int64) (x2 : Int64) (x4 : Int32) (σ : St) : Option Int64 := (ob (f_X3_commonDivisor x0 x2 σ) (fun q1 => if x4 = 0 then (f_X3_inLeastTerms_17 x0 x2 x4 σ q1 x0) else (f_X3_inLeastTerms_17 x0 x2 x4 σ q1 x2)))
set_option maxRecDepth 100000 in
set_option maxHeartbeats 4000000 in
theorem t_X3_inLeastTerms (l : Launch) (G : GT) (hG : Dw G) (x0 : Int64) (x2 : Int64) (x4 : Int32) (σ : St) (o : Int64) (hF : f_X3_inLeastTerms x0 x2 x4 σ = some o) : Ct l G yX3_inLeastTerms wsX3_inLeastTerms 1 30 [.long x0, .long x2, .int x4] σ (some (.long o)) σ := by
  refine Met.ofW (cc := cX3_inLeastTerms) (maxL := 9) (ret := (some .long)) (by decide) rfl ?_
  intro p e s m args below meth c s₁ B hml hv
  obtain ⟨rfl, hP, hK⟩ := hv
  have hx := B.exec
  have hb := B.bytes
  have hr := B.returns
  have hts := atoms_spec (ws := wsX3_inLeastTerms) B.pre
  have hown : s.vm.findClass RX3 = some m.cls := findClass_of_methodNamed B.named
  have hlocks := B.notSynchronized
  have Z : CallFix p m c cX3_inLeastTerms 9 s _ wsX3_inLeastTerms RX3 := ⟨hx, hb, hml, hown, hts⟩
  have hS : va_S (AG G) s.heap s.heap [] := va_S.rf
  have hl := lv_entry ([.long x0, .long x2, .int x4]) (n := 9) (Nat.le_of_ble_eq_true rfl)
  rw [lg_entry_eq]
  generalize (lg_sl ([.long x0, .long x2, .int x4]) ++ List.replicate (9 - (lg_sl ([.long x0, .long x2, .int x4])).length) Slot.unset).toArray = ls at hl ⊢
  have hl : lv_has ls 9 [(0, .long x0), (2, .long x2), (4, .int x4)] := hl
  unfold f_X3_inLeastTerms at hF
  refine lv_lload_n hx hb dX3_inLeastTerms_0 rfl (lv_at hl 0 rfl) ?_
  refine lv_lload_n hx hb dX3_inLeastTerms_1 rfl (lv_at hl 1 rfl) ?_
  obtain ⟨q1, h2, hF⟩ := ob_some hF
  refine k_Sv (As := [.long x0, .long x2]) (rest := []) Z hK hP hS (t_X3_commonDivisor l G hG x0 x2 σ _ h2) (va_cwS 2 hts gX3_inLeastTerms_X3_commonDivisor rfl rfl rfl (by decide +kernel) ⟨Nat.le_of_ble_eq_true rfl, Nat.le_of_ble_eq_true rfl⟩) rfl hl.1 rfl (Nat.le_of_ble_eq_true rfl) ⟨Nat.zero_le _, Nat.zero_le _⟩ dX3_inLeastTerms_2 (fun H locs hP hS => ?_)
  refine lv_lstore (lv' := [(5, .long q1), (0, .long x0), (2, .long x2), (4, .int x4)]) hx hb dX3_inLeastTerms_5 hl (by decide) rfl (fun ls hl => ?_)
  refine lv_iload hx hb dX3_inLeastTerms_7 (lv_at hl 3 rfl) ?_
  have J17 : ∀ (v5 : Int64) (z0 : Int64) (H : Heap) (locs : List Loc) (hP : Pw G σ H) (hS : va_S (AG G) s.heap H locs) (ls : Array Slot) (hl : lv_has ls 9 [(0, .long x0), (2, .long x2), (4, .int x4), (5, .long v5)]) (hF : f_X3_inLeastTerms_17 x0 x2 x4 σ v5 z0 = some o), W p l e (headSpec wsX3_inLeastTerms ({ frames := 1, cells := 0, slots := 0, locals := 30 })).room s m ([.long x0, .long x2, .int x4] : List Value).toArray below meth c H locs 0 0 (MQ below (qR G (some (.long o)) σ) ([.long x0, .long x2, .int x4] : List Value).toArray s 0 0 (AG G)) (F0 m 17 ls [.long z0]) := by
    intro v5 z0 H locs hP hS ls hl hF
    rw [f_X3_inLeastTerms_17_e] at hF
    refine lv_lstore (lv' := [(7, .long z0), (0, .long x0), (2, .long x2), (4, .int x4), (5, .long v5)]) hx hb dX3_inLeastTerms_17 hl (by decide) rfl (fun ls hl => ?_)
    refine lv_lload hx hb dX3_inLeastTerms_19 (lv_at hl 4 rfl) ?_
    refine lv_lconst (v := 0) hx hb dX3_inLeastTerms_21 (by decide) ?_
    refine W.lcmp hx hb dX3_inLeastTerms_22 ?_
    refine lv_if_ne (tgt := 31) hx hb dX3_inLeastTerms_23 (by decide) (fun c3 => ?_) (fun c3 => ?_)
    · have hF := ite_f c3 hF
      refine lv_lload hx hb dX3_inLeastTerms_31 (lv_at hl 0 rfl) ?_
      refine lv_lload hx hb dX3_inLeastTerms_33 (lv_at hl 4 rfl) ?_
      obtain ⟨b4, hF⟩ := ite_some hF
      refine lv_ldiv hx hb dX3_inLeastTerms_35 b4 ?_
      exact e_lP hx hb hr hP hS hlocks dX3_inLeastTerms_36 hF
    · have hF := ite_t c3 hF
      refine lv_lload hx hb dX3_inLeastTerms_26 (lv_at hl 0 rfl) ?_
      refine lv_goto (tgt := 36) hx hb dX3_inLeastTerms_28 (by decide) ?_
      exact e_lP hx hb hr hP hS hlocks dX3_inLeastTerms_36 hF
  refine lv_if_ne (tgt := 16) hx hb dX3_inLeastTerms_9 (by decide) (fun c5 => ?_) (fun c5 => ?_)
  · have hF := ite_f c5 hF
    refine lv_lload_n hx hb dX3_inLeastTerms_16 rfl (lv_at hl 2 rfl) ?_
    exact J17 q1 x2 _ _ hP hS ls (lv_sub hl [1, 2, 3, 0] rfl) hF
  · have hF := ite_t c5 hF
    refine lv_lload_n hx hb dX3_inLeastTerms_12 rfl (lv_at hl 1 rfl) ?_
    refine lv_goto (tgt := 17) hx hb dX3_inLeastTerms_13 (by decide) ?_
    exact J17 q1 x0 _ _ hP hS ls (lv_sub hl [1, 2, 3, 0] rfl) hF
def f_X3_power_5 (x0 : Int32) (x1 : Int32) (σ : St) : Nat → (Int64 → Int32 → Option Int64)
  | 0 => fun _ _ => none
  | fl + 1 => fun v2 v4 => (if x1 ≤ v4 then (some v2) else ((f_X3_power_5 x0 x1 σ fl) (v2 * x0.toInt64) (v4 + (1 : Int32))))
theorem f_X3_power_5_s {x0 : Int32} {x1 : Int32} {σ : St} (fl : Nat) {v2 : Int64} {v4 : Int32} : f_X3_power_5 x0 x1 σ (fl + 1) v2 v4 = (if x1 ≤ v4 then (some v2) else ((f_X3_power_5 x0 x1 σ fl) (v2 * x0.toInt64) (v4 + (1 : Int32)))) := rfl
def f_X3_power (x0 : Int32) (x1 : Int32) (σ : St) : Option Int64 := (f_X3_power_5 x0 x1 σ fu (1 : Int64) (0 : Int32))
set_option maxRecDepth 100000 in
set_option maxHeartbeats 4000000 in
theorem t_X3_power (l : Launch) (G : GT) (hG : Dw G) (x0 : Int32) (x1 : Int32) (σ : St) (o : Int64) (hF : f_X3_power x0 x1 σ = some o) : Ct l G yX3_power wsX3_power 0 0 [.int x0, .int x1] σ (some (.long o)) σ := by
  refine Met.ofW (cc := cX3_power) (maxL := 5) (ret := (some .long)) (by decide) rfl ?_
  intro p e s m args below meth c s₁ B hml hv
  obtain ⟨rfl, hP, hK⟩ := hv
  have hx := B.exec
  have hb := B.bytes
  have hr := B.returns
  have hts := atoms_spec (ws := wsX3_power) B.pre
  have hown : s.vm.findClass RX3 = some m.cls := findClass_of_methodNamed B.named
  have hlocks := B.notSynchronized
  have Z : CallFix p m c cX3_power 5 s _ wsX3_power RX3 := ⟨hx, hb, hml, hown, hts⟩
  have hS : va_S (AG G) s.heap s.heap [] := va_S.rf
  have hl := lv_entry ([.int x0, .int x1]) (n := 5) (Nat.le_of_ble_eq_true rfl)
  rw [lg_entry_eq]
  generalize (lg_sl ([.int x0, .int x1]) ++ List.replicate (5 - (lg_sl ([.int x0, .int x1])).length) Slot.unset).toArray = ls at hl ⊢
  have hl : lv_has ls 5 [(0, .int x0), (1, .int x1)] := hl
  unfold f_X3_power at hF
  refine lv_lconst (v := 1) hx hb dX3_power_0 (by decide) ?_
  refine lv_lstore_n (lv' := [(2, .long (1 : Int64)), (0, .int x0), (1, .int x1)]) hx hb dX3_power_1 rfl hl (by decide) rfl (fun ls hl => ?_)
  refine lv_iconst (v := 0) hx hb dX3_power_2 (by decide) ?_
  have J5 : ∀ (fl : Nat) (v2 : Int64) (v4 : Int32) (H : Heap) (locs : List Loc) (hP : Pw G σ H) (hS : va_S (AG G) s.heap H locs) (ls : Array Slot) (hl : lv_has ls 5 [(0, .int x0), (1, .int x1), (2, .long v2), (4, .int v4)]) (hF : f_X3_power_5 x0 x1 σ fl v2 v4 = some o), W p l e (headSpec wsX3_power ({ frames := 0, cells := 0, slots := 0, locals := 0 })).room s m ([.int x0, .int x1] : List Value).toArray below meth c H locs 0 0 (MQ below (qR G (some (.long o)) σ) ([.int x0, .int x1] : List Value).toArray s 0 0 (AG G)) (F0 m 5 ls []) := by
    intro fl5
    induction fl5 with
    | zero => intro v2 v4 H locs hP hS ls hl hF; cases hF
    | succ fl5 ih5 =>
      intro v2 v4 H locs hP hS ls hl hF
      rw [f_X3_power_5_s] at hF
      refine lv_iload hx hb dX3_power_5 (lv_at hl 3 rfl) ?_
      refine lv_iload_n hx hb dX3_power_7 rfl (lv_at hl 1 rfl) ?_
      refine lv_icmp_ge (tgt := 22) hx hb dX3_power_8 (by decide) (fun c1 => ?_) (fun c1 => ?_)
      · have hF := ite_t c1 hF
        refine lv_lload_n hx hb dX3_power_22 rfl (lv_at hl 2 rfl) ?_
        exact e_lP hx hb hr hP hS hlocks dX3_power_23 hF
      · have hF := ite_f c1 hF
        refine lv_lload_n hx hb dX3_power_11 rfl (lv_at hl 2 rfl) ?_
        refine lv_iload_n hx hb dX3_power_12 rfl (lv_at hl 0 rfl) ?_
        refine lv_i2l hx hb dX3_power_13 rfl ?_
        refine lv_lmul hx hb dX3_power_14 ?_
        refine lv_lstore_n (lv' := [(2, .long (v2 * x0.toInt64)), (0, .int x0), (1, .int x1), (4, .int v4)]) hx hb dX3_power_15 rfl hl (by decide) rfl (fun ls hl => ?_)
        refine lv_iinc (v := (v4 + (1 : Int32))) (lv' := [(4, .int (v4 + (1 : Int32))), (2, .long (v2 * x0.toInt64)), (0, .int x0), (1, .int x1)]) hx hb dX3_power_16 hl (k := 3) rfl rfl (by decide) rfl (fun ls hl => ?_)
        refine lv_goto (tgt := 5) hx hb dX3_power_19 (by decide) ?_
        exact ih5 (v2 * x0.toInt64) (v4 + (1 : Int32)) _ _ hP hS ls (lv_sub hl [2, 3, 1, 0] rfl) hF
  refine lv_istore (lv' := [(4, .int (0 : Int32)), (2, .long (1 : Int64)), (0, .int x0), (1, .int x1)]) hx hb dX3_power_3 hl (by decide) rfl (fun ls hl => ?_)
  exact J5 fu (1 : Int64) (0 : Int32) _ _ hP hS ls (lv_sub hl [2, 3, 1, 0] rfl) hF
def f_X3_waysToChoose_5 (x0 : Int32) (x1 : Int32) (σ : St) : Nat → (Int64 → Int32 → Option Int64)
  | 0 => fun _ _ => none
  | fl + 1 => fun v2 v4 => (if x1 < v4 then (some v2) else (if ¬ v4.toInt64 = 0 then (f_X3_waysToChoose_5 x0 x1 σ fl) ((v2 * (((x0 - v4) + (1 : Int32)).toInt64)) / v4.toInt64) (v4 + (1 : Int32)) else none))
theorem f_X3_waysToChoose_5_s {x0 : Int32} {x1 : Int32} {σ : St} (fl : Nat) {v2 : Int64} {v4 : Int32} : f_X3_waysToChoose_5 x0 x1 σ (fl + 1) v2 v4 = (if x1 < v4 then (some v2) else (if ¬ v4.toInt64 = 0 then (f_X3_waysToChoose_5 x0 x1 σ fl) ((v2 * (((x0 - v4) + (1 : Int32)).toInt64)) / v4.toInt64) (v4 + (1 : Int32)) else none)) := rfl
def f_X3_waysToChoose (x0 : Int32) (x1 : Int32) (σ : St) : Option Int64 := (f_X3_waysToChoose_5 x0 x1 σ fu (1 : Int64) (1 : Int32))
set_option maxRecDepth 100000 in
set_option maxHeartbeats 4000000 in
theorem t_X3_waysToChoose (l : Launch) (G : GT) (hG : Dw G) (x0 : Int32) (x1 : Int32) (σ : St) (o : Int64) (hF : f_X3_waysToChoose x0 x1 σ = some o) : Ct l G yX3_waysToChoose wsX3_waysToChoose 0 0 [.int x0, .int x1] σ (some (.long o)) σ := by
  refine Met.ofW (cc := cX3_waysToChoose) (maxL := 5) (ret := (some .long)) (by decide) rfl ?_
  intro p e s m args below meth c s₁ B hml hv
  obtain ⟨rfl, hP, hK⟩ := hv
  have hx := B.exec
  have hb := B.bytes
  have hr := B.returns
  have hts := atoms_spec (ws := wsX3_waysToChoose) B.pre
  have hown : s.vm.findClass RX3 = some m.cls := findClass_of_methodNamed B.named
  have hlocks := B.notSynchronized
  have Z : CallFix p m c cX3_waysToChoose 5 s _ wsX3_waysToChoose RX3 := ⟨hx, hb, hml, hown, hts⟩
  have hS : va_S (AG G) s.heap s.heap [] := va_S.rf
  have hl := lv_entry ([.int x0, .int x1]) (n := 5) (Nat.le_of_ble_eq_true rfl)
  rw [lg_entry_eq]
  generalize (lg_sl ([.int x0, .int x1]) ++ List.replicate (5 - (lg_sl ([.int x0, .int x1])).length) Slot.unset).toArray = ls at hl ⊢
  have hl : lv_has ls 5 [(0, .int x0), (1, .int x1)] := hl
  unfold f_X3_waysToChoose at hF
  refine lv_lconst (v := 1) hx hb dX3_waysToChoose_0 (by decide) ?_
  refine lv_lstore_n (lv' := [(2, .long (1 : Int64)), (0, .int x0), (1, .int x1)]) hx hb dX3_waysToChoose_1 rfl hl (by decide) rfl (fun ls hl => ?_)
  refine lv_iconst (v := 1) hx hb dX3_waysToChoose_2 (by decide) ?_
  have J5 : ∀ (fl : Nat) (v2 : Int64) (v4 : Int32) (H : Heap) (locs : List Loc) (hP : Pw G σ H) (hS : va_S (AG G) s.heap H locs) (ls : Array Slot) (hl : lv_has ls 5 [(0, .int x0), (1, .int x1), (2, .long v2), (4, .int v4)]) (hF : f_X3_waysToChoose_5 x0 x1 σ fl v2 v4 = some o), W p l e (headSpec wsX3_waysToChoose ({ frames := 0, cells := 0, slots := 0, locals := 0 })).room s m ([.int x0, .int x1] : List Value).toArray below meth c H locs 0 0 (MQ below (qR G (some (.long o)) σ) ([.int x0, .int x1] : List Value).toArray s 0 0 (AG G)) (F0 m 5 ls []) := by
    intro fl5
    induction fl5 with
    | zero => intro v2 v4 H locs hP hS ls hl hF; cases hF
    | succ fl5 ih5 =>
      intro v2 v4 H locs hP hS ls hl hF
      rw [f_X3_waysToChoose_5_s] at hF
      refine lv_iload hx hb dX3_waysToChoose_5 (lv_at hl 3 rfl) ?_
      refine lv_iload_n hx hb dX3_waysToChoose_7 rfl (lv_at hl 1 rfl) ?_
      refine lv_icmp_gt (tgt := 31) hx hb dX3_waysToChoose_8 (by decide) (fun c1 => ?_) (fun c1 => ?_)
      · have hF := ite_t c1 hF
        refine lv_lload_n hx hb dX3_waysToChoose_31 rfl (lv_at hl 2 rfl) ?_
        exact e_lP hx hb hr hP hS hlocks dX3_waysToChoose_32 hF
      · have hF := ite_f c1 hF
        refine lv_lload_n hx hb dX3_waysToChoose_11 rfl (lv_at hl 2 rfl) ?_
        refine lv_iload_n hx hb dX3_waysToChoose_12 rfl (lv_at hl 0 rfl) ?_
        refine lv_iload hx hb dX3_waysToChoose_13 (lv_at hl 3 rfl) ?_
        refine lv_isub hx hb dX3_waysToChoose_15 ?_
        refine lv_iconst (v := 1) hx hb dX3_waysToChoose_16 (by decide) ?_
        refine lv_iadd hx hb dX3_waysToChoose_17 ?_
        refine lv_i2l hx hb dX3_waysToChoose_18 rfl ?_
        refine lv_lmul hx hb dX3_waysToChoose_19 ?_
        refine lv_iload hx hb dX3_waysToChoose_20 (lv_at hl 3 rfl) ?_
        refine lv_i2l hx hb dX3_waysToChoose_22 rfl ?_
        obtain ⟨b2, hF⟩ := ite_some hF
        refine lv_ldiv hx hb dX3_waysToChoose_23 b2 ?_
        refine lv_lstore_n (lv' := [(2, .long ((v2 * (((x0 - v4) + (1 : Int32)).toInt64)) / v4.toInt64)), (0, .int x0), (1, .int x1), (4, .int v4)]) hx hb dX3_waysToChoose_24 rfl hl (by decide) rfl (fun ls hl => ?_)
        refine lv_iinc (v := (v4 + (1 : Int32))) (lv' := [(4, .int (v4 + (1 : Int32))), (2, .long ((v2 * (((x0 - v4) + (1 : Int32)).toInt64)) / v4.toInt64)), (0, .int x0), (1, .int x1)]) hx hb dX3_waysToChoose_25 hl (k := 3) rfl rfl (by decide) rfl (fun ls hl => ?_)
        refine lv_goto (tgt := 5) hx hb dX3_waysToChoose_28 (by decide) ?_
        exact ih5 ((v2 * (((x0 - v4) + (1 : Int32)).toInt64)) / v4.toInt64) (v4 + (1 : Int32)) _ _ hP hS ls (lv_sub hl [2, 3, 1, 0] rfl) hF
  refine lv_istore (lv' := [(4, .int (1 : Int32)), (2, .long (1 : Int64)), (0, .int x0), (1, .int x1)]) hx hb dX3_waysToChoose_3 hl (by decide) rfl (fun ls hl => ?_)
  exact J5 fu (1 : Int64) (1 : Int32) _ _ hP hS ls (lv_sub hl [2, 3, 1, 0] rfl) hF
def f_X3_waysOfSoMany_5 (x0 : Int32) (x1 : Int32) (x2 : Int32) (σ : St) : Nat → (Int64 → Int32 → Option Int64)
  | 0 => fun _ _ => none
  | fl + 1 => fun v3 v5 => (if x0 < v5 then (some v3) else (ob (f_X3_waysToChoose x0 v5 σ) (fun q2 => ob (f_X3_power (x1 - (1 : Int32)) (x0 - v5) σ) (fun q4 => (f_X3_waysOfSoMany_5 x0 x1 x2 σ fl) (v3 + (q2 * q4)) (v5 + (1 : Int32))))))
theorem f_X3_waysOfSoMany_5_s {x0 : Int32} {x1 : Int32} {x2 : Int32} {σ : St} (fl : Nat) {v3 : Int64} {v5 : Int32} : f_X3_waysOfSoMany_5 x0 x1 x2 σ (fl + 1) v3 v5 = (if x0 < v5 then (some v3) else (ob (f_X3_waysToChoose x0 v5 σ) (fun q2 => ob (f_X3_power (x1 - (1 : Int32)) (x0 - v5) σ) (fun q4 => (f_X3_waysOfSoMany_5 x0 x1 x2 σ fl) (v3 + (q2 * q4)) (v5 + (1 : Int32)))))) := rfl
def f_X3_waysOfSoMany (x0 : Int32) (x1 : Int32) (x2 : Int32) (σ : St) : Option Int64 := (f_X3_waysOfSoMany_5 x0 x1 x2 σ fu (0 : Int64) x2)
set_option maxRecDepth 100000 in
set_option maxHeartbeats 4000000 in
theorem t_X3_waysOfSoMany (l : Launch) (G : GT) (hG : Dw G) (x0 : Int32) (x1 : Int32) (x2 : Int32) (σ : St) (o : Int64) (hF : f_X3_waysOfSoMany x0 x1 x2 σ = some o) : Ct l G yX3_waysOfSoMany wsX3_waysOfSoMany 1 24 [.int x0, .int x1, .int x2] σ (some (.long o)) σ := by
  refine Met.ofW (cc := cX3_waysOfSoMany) (maxL := 6) (ret := (some .long)) (by decide) rfl ?_
  intro p e s m args below meth c s₁ B hml hv
  obtain ⟨rfl, hP, hK⟩ := hv
  have hx := B.exec
  have hb := B.bytes
  have hr := B.returns
  have hts := atoms_spec (ws := wsX3_waysOfSoMany) B.pre
  have hown : s.vm.findClass RX3 = some m.cls := findClass_of_methodNamed B.named
  have hlocks := B.notSynchronized
  have Z : CallFix p m c cX3_waysOfSoMany 6 s _ wsX3_waysOfSoMany RX3 := ⟨hx, hb, hml, hown, hts⟩
  have hS : va_S (AG G) s.heap s.heap [] := va_S.rf
  have hl := lv_entry ([.int x0, .int x1, .int x2]) (n := 6) (Nat.le_of_ble_eq_true rfl)
  rw [lg_entry_eq]
  generalize (lg_sl ([.int x0, .int x1, .int x2]) ++ List.replicate (6 - (lg_sl ([.int x0, .int x1, .int x2])).length) Slot.unset).toArray = ls at hl ⊢
  have hl : lv_has ls 6 [(0, .int x0), (1, .int x1), (2, .int x2)] := hl
  unfold f_X3_waysOfSoMany at hF
  refine lv_lconst (v := 0) hx hb dX3_waysOfSoMany_0 (by decide) ?_
  refine lv_lstore_n (lv' := [(3, .long (0 : Int64)), (0, .int x0), (1, .int x1), (2, .int x2)]) hx hb dX3_waysOfSoMany_1 rfl hl (by decide) rfl (fun ls hl => ?_)
  refine lv_iload_n hx hb dX3_waysOfSoMany_2 rfl (lv_at hl 3 rfl) ?_
  have J5 : ∀ (fl : Nat) (v3 : Int64) (v5 : Int32) (H : Heap) (locs : List Loc) (hP : Pw G σ H) (hS : va_S (AG G) s.heap H locs) (ls : Array Slot) (hl : lv_has ls 6 [(0, .int x0), (1, .int x1), (2, .int x2), (3, .long v3), (5, .int v5)]) (hF : f_X3_waysOfSoMany_5 x0 x1 x2 σ fl v3 v5 = some o), W p l e (headSpec wsX3_waysOfSoMany ({ frames := 1, cells := 0, slots := 0, locals := 24 })).room s m ([.int x0, .int x1, .int x2] : List Value).toArray below meth c H locs 0 0 (MQ below (qR G (some (.long o)) σ) ([.int x0, .int x1, .int x2] : List Value).toArray s 0 0 (AG G)) (F0 m 5 ls []) := by
    intro fl5
    induction fl5 with
    | zero => intro v3 v5 H locs hP hS ls hl hF; cases hF
    | succ fl5 ih5 =>
      intro v3 v5 H locs hP hS ls hl hF
      rw [f_X3_waysOfSoMany_5_s] at hF
      refine lv_iload hx hb dX3_waysOfSoMany_5 (lv_at hl 4 rfl) ?_
      refine lv_iload_n hx hb dX3_waysOfSoMany_7 rfl (lv_at hl 0 rfl) ?_
      refine lv_icmp_gt (tgt := 37) hx hb dX3_waysOfSoMany_8 (by decide) (fun c1 => ?_) (fun c1 => ?_)
      · have hF := ite_t c1 hF
        refine lv_lload_n hx hb dX3_waysOfSoMany_37 rfl (lv_at hl 3 rfl) ?_
        exact e_lP hx hb hr hP hS hlocks dX3_waysOfSoMany_38 hF
      · have hF := ite_f c1 hF
        refine lv_lload_n hx hb dX3_waysOfSoMany_11 rfl (lv_at hl 3 rfl) ?_
        refine lv_iload_n hx hb dX3_waysOfSoMany_12 rfl (lv_at hl 0 rfl) ?_
        refine lv_iload hx hb dX3_waysOfSoMany_13 (lv_at hl 4 rfl) ?_
        obtain ⟨q2, h3, hF⟩ := ob_some hF
        refine k_Sv (As := [.int x0, .int v5]) (rest := [.long v3]) Z hK hP hS (t_X3_waysToChoose l G hG x0 v5 σ _ h3) (va_cwS 2 hts gX3_waysOfSoMany_X3_waysToChoose rfl rfl rfl (by decide +kernel) ⟨Nat.le_of_ble_eq_true rfl, Nat.le_of_ble_eq_true rfl⟩) rfl hl.1 rfl (Nat.le_of_ble_eq_true rfl) ⟨Nat.zero_le _, Nat.zero_le _⟩ dX3_waysOfSoMany_15 (fun H locs hP hS => ?_)
        refine lv_iload_n hx hb dX3_waysOfSoMany_18 rfl (lv_at hl 1 rfl) ?_
        refine lv_iconst (v := 1) hx hb dX3_waysOfSoMany_19 (by decide) ?_
        refine lv_isub hx hb dX3_waysOfSoMany_20 ?_
        refine lv_iload_n hx hb dX3_waysOfSoMany_21 rfl (lv_at hl 0 rfl) ?_
        refine lv_iload hx hb dX3_waysOfSoMany_22 (lv_at hl 4 rfl) ?_
        refine lv_isub hx hb dX3_waysOfSoMany_24 ?_
        obtain ⟨q4, h5, hF⟩ := ob_some hF
        refine k_Sv (As := [.int (x1 - (1 : Int32)), .int (x0 - v5)]) (rest := [.long q2, .long v3]) Z hK hP hS (t_X3_power l G hG (x1 - (1 : Int32)) (x0 - v5) σ _ h5) (va_cwS 2 hts gX3_waysOfSoMany_X3_power rfl rfl rfl (by decide +kernel) ⟨Nat.le_of_ble_eq_true rfl, Nat.le_of_ble_eq_true rfl⟩) rfl hl.1 rfl (Nat.le_of_ble_eq_true rfl) ⟨Nat.zero_le _, Nat.zero_le _⟩ dX3_waysOfSoMany_25 (fun H locs hP hS => ?_)
        refine lv_lmul hx hb dX3_waysOfSoMany_28 ?_
        refine lv_ladd hx hb dX3_waysOfSoMany_29 ?_
        refine lv_lstore_n (lv' := [(3, .long (v3 + (q2 * q4))), (0, .int x0), (1, .int x1), (2, .int x2), (5, .int v5)]) hx hb dX3_waysOfSoMany_30 rfl hl (by decide) rfl (fun ls hl => ?_)
        refine lv_iinc (v := (v5 + (1 : Int32))) (lv' := [(5, .int (v5 + (1 : Int32))), (3, .long (v3 + (q2 * q4))), (0, .int x0), (1, .int x1), (2, .int x2)]) hx hb dX3_waysOfSoMany_31 hl (k := 4) rfl rfl (by decide) rfl (fun ls hl => ?_)
        refine lv_goto (tgt := 5) hx hb dX3_waysOfSoMany_34 (by decide) ?_
        exact ih5 (v3 + (q2 * q4)) (v5 + (1 : Int32)) _ _ hP hS ls (lv_sub hl [2, 3, 4, 1, 0] rfl) hF
  refine lv_istore (lv' := [(5, .int x2), (3, .long (0 : Int64)), (0, .int x0), (1, .int x1), (2, .int x2)]) hx hb dX3_waysOfSoMany_3 hl (by decide) rfl (fun ls hl => ?_)
  exact J5 fu (0 : Int64) x2 _ _ hP hS ls (lv_sub hl [2, 3, 4, 1, 0] rfl) hF
def f_X1_become (i0 : Nat) (x1 : Int32) (x2 : Int32) (x3 : Int32) (x4 : Int32) (x5 : Int32) (σ : St) : Option St := (some (up (up (up (up (up (up (up σ i0 0 x1) i0 1 x2) i0 2 x3) i0 3 x4) i0 4 (x5 &&& (((1 : Int32) <<< (x4 &&& 31)) ^^^ (-1 : Int32)))) i0 5 (f_X4_lasting x1 x2)) i0 6 (f_X4_lastingOwn x1 ((up (up (up (up (up (up σ i0 0 x1) i0 1 x2) i0 2 x3) i0 3 x4) i0 4 (x5 &&& (((1 : Int32) <<< (x4 &&& 31)) ^^^ (-1 : Int32)))) i0 5 (f_X4_lasting x1 x2)) i0 5))))
set_option maxRecDepth 100000 in
set_option maxHeartbeats 4000000 in
theorem t_X1_become (l : Launch) (G : GT) (hG : Dw G) (i0 : Nat) (x1 : Int32) (x2 : Int32) (x3 : Int32) (x4 : Int32) (x5 : Int32) (hk0 : kd i0 = 1) (σ : St) (o : St) (hF : f_X1_become i0 x1 x2 x3 x4 x5 σ = some o) : Ct l G yX1_become wsX1_become 1 24 [.ref (gA G i0), .int x1, .int x2, .int x3, .int x4, .int x5] σ none o := by
  refine Met.ofW (cc := cX1_become) (maxL := 6) (ret := none) (by decide) rfl ?_
  intro p e s m args below meth c s₁ B hml hv
  obtain ⟨rfl, hP, hK⟩ := hv
  have hx := B.exec
  have hb := B.bytes
  have hr := B.returns
  have hts := atoms_spec (ws := wsX1_become) B.pre
  have hown : s.vm.findClass RX1 = some m.cls := findClass_of_methodNamed B.named
  have hlocks := B.notSynchronized
  have Z : CallFix p m c cX1_become 6 s _ wsX1_become RX1 := ⟨hx, hb, hml, hown, hts⟩
  have hS : va_S (AG G) s.heap s.heap [] := va_S.rf
  have inX1 : ∀ w ∈ u_ws RX1 TX1 7, w ∈ wsX1_become := by decide +kernel
  have w1 := hts (.fieldLink RX1 7 "AlmanacOfTheYearGone$Deed" "kind" "I") (by decide +kernel)
  have w2 := hts (.fieldLink RX1 13 "AlmanacOfTheYearGone$Deed" "figure" "I") (by decide +kernel)
  have w3 := hts (.fieldLink RX1 16 "AlmanacOfTheYearGone$Deed" "day" "I") (by decide +kernel)
  have w4 := hts (.fieldLink RX1 19 "AlmanacOfTheYearGone$Deed" "who" "I") (by decide +kernel)
  have w5 := hts (.fieldLink RX1 22 "AlmanacOfTheYearGone$Deed" "seen" "I") (by decide +kernel)
  have w6 := hts (.initialized RX4) (by decide +kernel)
  have w7n : va_Nw (.methodLinkNest "AlmanacOfTheYearGone$Deed" 25 ⟨"AlmanacOfTheYearGone$Law", "lasting", "(II)I"⟩ "AlmanacOfTheYearGone") s := hK.2 _ (List.mem_of_getElem? (i := 44) rfl)
  have w7 := va_Nw.use (A := [.ref (gA G i0), .int x1, .int x2, .int x3, .int x4, .int x5].toArray) rfl w7n
  have w8 := hts (.static yX4_lasting) (by decide +kernel)
  have w9 := hts (.fieldLink RX1 31 "AlmanacOfTheYearGone$Deed" "lasting" "I") (by decide +kernel)
  have w10n : va_Nw (.methodLinkNest "AlmanacOfTheYearGone$Deed" 33 ⟨"AlmanacOfTheYearGone$Law", "lastingOwn", "(II)I"⟩ "AlmanacOfTheYearGone") s := hK.2 _ (List.mem_of_getElem? (i := 45) rfl)
  have w10 := va_Nw.use (A := [.ref (gA G i0), .int x1, .int x2, .int x3, .int x4, .int x5].toArray) rfl w10n
  have w11 := hts (.static yX4_lastingOwn) (by decide +kernel)
  have w12 := hts (.fieldLink RX1 36 "AlmanacOfTheYearGone$Deed" "lastingOwn" "I") (by decide +kernel)
  have hl := lv_entry ([.ref (gA G i0), .int x1, .int x2, .int x3, .int x4, .int x5]) (n := 6) (Nat.le_of_ble_eq_true rfl)
  rw [lg_entry_eq]
  generalize (lg_sl ([.ref (gA G i0), .int x1, .int x2, .int x3, .int x4, .int x5]) ++ List.replicate (6 - (lg_sl ([.ref (gA G i0), .int x1, .int x2, .int x3, .int x4, .int x5])).length) Slot.unset).toArray = ls at hl ⊢
  have hl : lv_has ls 6 [(0, .ref (gA G i0)), (1, .int x1), (2, .int x2), (3, .int x3), (4, .int x4), (5, .int x5)] := hl
  unfold f_X1_become at hF
  refine lv_aload_n hx hb dX1_become_0 rfl (lv_at hl 0 rfl) ?_
  refine lv_iload_n hx hb dX1_become_1 rfl (lv_at hl 1 rfl) ?_
  refine va_put (ci := 1) (C := RX1) (T := TX1) (N := 7) (v := .int x1) (ty := .int) hx hb hts inX1 tyX1 tyX1_ok nmX1 hown hK.1 hP (Dw.D hG) hS i0 (at_1 hk0) rfl 0 (by decide) w1 (fun _ h9 => h9) rfl (by decide +kernel) rfl rfl (Nat.le_of_ble_eq_true rfl) dX1_become_2 (fun H locs hP _ hS => ?_)
  have hP := Pw.of hP (set_1_0 hk0)
  refine lv_aload_n hx hb dX1_become_5 rfl (lv_at hl 0 rfl) ?_
  refine lv_iload_n hx hb dX1_become_6 rfl (lv_at hl 2 rfl) ?_
  refine va_put (ci := 1) (C := RX1) (T := TX1) (N := 7) (v := .int x2) (ty := .int) hx hb hts inX1 tyX1 tyX1_ok nmX1 hown hK.1 hP (Dw.D hG) hS i0 (at_1 hk0) rfl 1 (by decide) w2 (fun _ h9 => h9) rfl (by decide +kernel) rfl rfl (Nat.le_of_ble_eq_true rfl) dX1_become_7 (fun H locs hP _ hS => ?_)
  have hP := Pw.of hP (set_1_1 hk0)
  refine lv_aload_n hx hb dX1_become_10 rfl (lv_at hl 0 rfl) ?_
  refine lv_iload_n hx hb dX1_become_11 rfl (lv_at hl 3 rfl) ?_
  refine va_put (ci := 1) (C := RX1) (T := TX1) (N := 7) (v := .int x3) (ty := .int) hx hb hts inX1 tyX1 tyX1_ok nmX1 hown hK.1 hP (Dw.D hG) hS i0 (at_1 hk0) rfl 2 (by decide) w3 (fun _ h9 => h9) rfl (by decide +kernel) rfl rfl (Nat.le_of_ble_eq_true rfl) dX1_become_12 (fun H locs hP _ hS => ?_)
  have hP := Pw.of hP (set_1_2 hk0)
  refine lv_aload_n hx hb dX1_become_15 rfl (lv_at hl 0 rfl) ?_
  refine lv_iload hx hb dX1_become_16 (lv_at hl 4 rfl) ?_
  refine va_put (ci := 1) (C := RX1) (T := TX1) (N := 7) (v := .int x4) (ty := .int) hx hb hts inX1 tyX1 tyX1_ok nmX1 hown hK.1 hP (Dw.D hG) hS i0 (at_1 hk0) rfl 3 (by decide) w4 (fun _ h9 => h9) rfl (by decide +kernel) rfl rfl (Nat.le_of_ble_eq_true rfl) dX1_become_18 (fun H locs hP _ hS => ?_)
  have hP := Pw.of hP (set_1_3 hk0)
  refine lv_aload_n hx hb dX1_become_21 rfl (lv_at hl 0 rfl) ?_
  refine lv_iload hx hb dX1_become_22 (lv_at hl 5 rfl) ?_
  refine lv_iconst (v := 1) hx hb dX1_become_24 (by decide) ?_
  refine lv_iload hx hb dX1_become_25 (lv_at hl 4 rfl) ?_
  refine lv_ishl hx hb dX1_become_27 ?_
  refine lv_iconst (v := -1) hx hb dX1_become_28 (by decide) ?_
  refine lv_ixor hx hb dX1_become_29 ?_
  refine lv_iand hx hb dX1_become_30 ?_
  refine va_put (ci := 1) (C := RX1) (T := TX1) (N := 7) (v := .int (x5 &&& (((1 : Int32) <<< (x4 &&& 31)) ^^^ (-1 : Int32)))) (ty := .int) hx hb hts inX1 tyX1 tyX1_ok nmX1 hown hK.1 hP (Dw.D hG) hS i0 (at_1 hk0) rfl 4 (by decide) w5 (fun _ h9 => h9) rfl (by decide +kernel) rfl rfl (Nat.le_of_ble_eq_true rfl) dX1_become_31 (fun H locs hP _ hS => ?_)
  have hP := Pw.of hP (set_1_4 hk0)
  refine lv_aload_n hx hb dX1_become_34 rfl (lv_at hl 0 rfl) ?_
  refine lv_iload_n hx hb dX1_become_35 rfl (lv_at hl 1 rfl) ?_
  refine lv_iload_n hx hb dX1_become_36 rfl (lv_at hl 2 rfl) ?_
  refine k_SNv (As := [.int x1, .int x2]) (rest := [.ref (gA G i0)]) Z hK hP hS (t_X4_lasting l G hG x1 x2 (up (up (up (up (up σ i0 0 x1) i0 1 x2) i0 2 x3) i0 3 x4) i0 4 (x5 &&& (((1 : Int32) <<< (x4 &&& 31)) ^^^ (-1 : Int32))))) ⟨va_cnB 2 hts gX1_become_X4_lasting_n25 rfl rfl rfl w7n w6 (by decide +kernel) ⟨Nat.le_of_ble_eq_true rfl, Nat.le_of_ble_eq_true rfl⟩, w8, trivial⟩ rfl hl.1 rfl (Nat.le_of_ble_eq_true rfl) ⟨Nat.zero_le _, Nat.zero_le _⟩ dX1_become_37 (fun H locs hP hS => ?_)
  refine va_put (ci := 1) (C := RX1) (T := TX1) (N := 7) (v := .int (f_X4_lasting x1 x2)) (ty := .int) hx hb hts inX1 tyX1 tyX1_ok nmX1 hown hK.1 hP (Dw.D hG) hS i0 (at_1 hk0) rfl 5 (by decide) w9 (fun _ h9 => h9) rfl (by decide +kernel) rfl rfl (Nat.le_of_ble_eq_true rfl) dX1_become_40 (fun H locs hP _ hS => ?_)
  have hP := Pw.of hP (set_1_5 hk0)
  refine lv_aload_n hx hb dX1_become_43 rfl (lv_at hl 0 rfl) ?_
  refine lv_iload_n hx hb dX1_become_44 rfl (lv_at hl 1 rfl) ?_
  refine lv_aload_n hx hb dX1_become_45 rfl (lv_at hl 0 rfl) ?_
  refine va_get (ci := 1) (C := RX1) (T := TX1) (N := 7) (v := .int ((up (up (up (up (up (up σ i0 0 x1) i0 1 x2) i0 2 x3) i0 3 x4) i0 4 (x5 &&& (((1 : Int32) <<< (x4 &&& 31)) ^^^ (-1 : Int32)))) i0 5 (f_X4_lasting x1 x2)) i0 5)) hx hb hts inX1 hown hK.1 hP i0 (at_1 hk0) rfl 5 (by decide) w9 (fun _ h9 => h9) rfl dX1_become_46 ?_
  refine k_SNv (As := [.int x1, .int ((up (up (up (up (up (up σ i0 0 x1) i0 1 x2) i0 2 x3) i0 3 x4) i0 4 (x5 &&& (((1 : Int32) <<< (x4 &&& 31)) ^^^ (-1 : Int32)))) i0 5 (f_X4_lasting x1 x2)) i0 5)]) (rest := [.ref (gA G i0)]) Z hK hP hS (t_X4_lastingOwn l G hG x1 ((up (up (up (up (up (up σ i0 0 x1) i0 1 x2) i0 2 x3) i0 3 x4) i0 4 (x5 &&& (((1 : Int32) <<< (x4 &&& 31)) ^^^ (-1 : Int32)))) i0 5 (f_X4_lasting x1 x2)) i0 5) (up (up (up (up (up (up σ i0 0 x1) i0 1 x2) i0 2 x3) i0 3 x4) i0 4 (x5 &&& (((1 : Int32) <<< (x4 &&& 31)) ^^^ (-1 : Int32)))) i0 5 (f_X4_lasting x1 x2))) ⟨va_cnB 2 hts gX1_become_X4_lastingOwn_n33 rfl rfl rfl w10n w6 (by decide +kernel) ⟨Nat.le_of_ble_eq_true rfl, Nat.le_of_ble_eq_true rfl⟩, w11, trivial⟩ rfl hl.1 rfl (Nat.le_of_ble_eq_true rfl) ⟨Nat.zero_le _, Nat.zero_le _⟩ dX1_become_49 (fun H locs hP hS => ?_)
  refine va_put (ci := 1) (C := RX1) (T := TX1) (N := 7) (v := .int (f_X4_lastingOwn x1 ((up (up (up (up (up (up σ i0 0 x1) i0 1 x2) i0 2 x3) i0 3 x4) i0 4 (x5 &&& (((1 : Int32) <<< (x4 &&& 31)) ^^^ (-1 : Int32)))) i0 5 (f_X4_lasting x1 x2)) i0 5))) (ty := .int) hx hb hts inX1 tyX1 tyX1_ok nmX1 hown hK.1 hP (Dw.D hG) hS i0 (at_1 hk0) rfl 6 (by decide) w12 (fun _ h9 => h9) rfl (by decide +kernel) rfl rfl (Nat.le_of_ble_eq_true rfl) dX1_become_52 (fun H locs hP _ hS => ?_)
  have hP := Pw.of hP (set_1_6 hk0)
  exact e_vS hx hb hr hP hS hlocks dX1_become_55 hF
def f_X1_turnSeen (i0 : Nat) (x1 : Int32) (σ : St) : Option St := (some (up σ i0 4 ((σ i0 4) ^^^ ((1 : Int32) <<< (x1 &&& 31)))))
set_option maxRecDepth 100000 in
set_option maxHeartbeats 4000000 in
theorem t_X1_turnSeen (l : Launch) (G : GT) (hG : Dw G) (i0 : Nat) (x1 : Int32) (hk0 : kd i0 = 1) (σ : St) (o : St) (hF : f_X1_turnSeen i0 x1 σ = some o) : Ct l G yX1_turnSeen wsX1_turnSeen 0 0 [.ref (gA G i0), .int x1] σ none o := by
  refine Met.ofW (cc := cX1_turnSeen) (maxL := 2) (ret := none) (by decide) rfl ?_
  intro p e s m args below meth c s₁ B hml hv
  obtain ⟨rfl, hP, hK⟩ := hv
  have hx := B.exec
  have hb := B.bytes
  have hr := B.returns
  have hts := atoms_spec (ws := wsX1_turnSeen) B.pre
  have hown : s.vm.findClass RX1 = some m.cls := findClass_of_methodNamed B.named
  have hlocks := B.notSynchronized
  have Z : CallFix p m c cX1_turnSeen 2 s _ wsX1_turnSeen RX1 := ⟨hx, hb, hml, hown, hts⟩
  have hS : va_S (AG G) s.heap s.heap [] := va_S.rf
  have inX1 : ∀ w ∈ u_ws RX1 TX1 7, w ∈ wsX1_turnSeen := by decide +kernel
  have w1 := hts (.fieldLink RX1 22 "AlmanacOfTheYearGone$Deed" "seen" "I") (by decide +kernel)
  have hl := lv_entry ([.ref (gA G i0), .int x1]) (n := 2) (Nat.le_of_ble_eq_true rfl)
  rw [lg_entry_eq]
  generalize (lg_sl ([.ref (gA G i0), .int x1]) ++ List.replicate (2 - (lg_sl ([.ref (gA G i0), .int x1])).length) Slot.unset).toArray = ls at hl ⊢
  have hl : lv_has ls 2 [(0, .ref (gA G i0)), (1, .int x1)] := hl
  unfold f_X1_turnSeen at hF
  refine lv_aload_n hx hb dX1_turnSeen_0 rfl (lv_at hl 0 rfl) ?_
  refine lv_dup hx hb dX1_turnSeen_1 rfl ?_
  refine va_get (ci := 1) (C := RX1) (T := TX1) (N := 7) (v := .int (σ i0 4)) hx hb hts inX1 hown hK.1 hP i0 (at_1 hk0) rfl 4 (by decide) w1 (fun _ h9 => h9) rfl dX1_turnSeen_2 ?_
  refine lv_iconst (v := 1) hx hb dX1_turnSeen_5 (by decide) ?_
  refine lv_iload_n hx hb dX1_turnSeen_6 rfl (lv_at hl 1 rfl) ?_
  refine lv_ishl hx hb dX1_turnSeen_7 ?_
  refine lv_ixor hx hb dX1_turnSeen_8 ?_
  refine va_put (ci := 1) (C := RX1) (T := TX1) (N := 7) (v := .int ((σ i0 4) ^^^ ((1 : Int32) <<< (x1 &&& 31)))) (ty := .int) hx hb hts inX1 tyX1 tyX1_ok nmX1 hown hK.1 hP (Dw.D hG) hS i0 (at_1 hk0) rfl 4 (by decide) w1 (fun _ h9 => h9) rfl (by decide +kernel) rfl rfl (Nat.le_of_ble_eq_true rfl) dX1_turnSeen_9 (fun H locs hP _ hS => ?_)
  have hP := Pw.of hP (set_1_4 hk0)
  exact e_vS hx hb hr hP hS hlocks dX1_turnSeen_12 hF
def f_X1_size (i0 : Nat) (σ : St) : Int32 := (f_X4_size (σ i0 0) (σ i0 1))
set_option maxRecDepth 100000 in
set_option maxHeartbeats 4000000 in
theorem t_X1_size (l : Launch) (G : GT) (hG : Dw G) (i0 : Nat) (hk0 : kd i0 = 1) (σ : St) : Ct l G yX1_size wsX1_size 1 23 [.ref (gA G i0)] σ (some (.int (f_X1_size i0 σ))) σ := by
  obtain ⟨o, hF⟩ : ∃ o, f_X1_size i0 σ = o := ⟨_, rfl⟩
  rw [hF]
  refine Met.ofW (cc := cX1_size) (maxL := 1) (ret := (some .int)) (by decide) rfl ?_
  intro p e s m args below meth c s₁ B hml hv
  obtain ⟨rfl, hP, hK⟩ := hv
  have hx := B.exec
  have hb := B.bytes
  have hr := B.returns
  have hts := atoms_spec (ws := wsX1_size) B.pre
  have hown : s.vm.findClass RX1 = some m.cls := findClass_of_methodNamed B.named
  have hlocks := B.notSynchronized
  have Z : CallFix p m c cX1_size 1 s _ wsX1_size RX1 := ⟨hx, hb, hml, hown, hts⟩
  have hS : va_S (AG G) s.heap s.heap [] := va_S.rf
  have inX1 : ∀ w ∈ u_ws RX1 TX1 7, w ∈ wsX1_size := by decide +kernel
  have w1 := hts (.fieldLink RX1 7 "AlmanacOfTheYearGone$Deed" "kind" "I") (by decide +kernel)
  have w2 := hts (.fieldLink RX1 13 "AlmanacOfTheYearGone$Deed" "figure" "I") (by decide +kernel)
  have w3 := hts (.initialized RX4) (by decide +kernel)
  have w4n : va_Nw (.methodLinkNest "AlmanacOfTheYearGone$Deed" 38 ⟨"AlmanacOfTheYearGone$Law", "size", "(II)I"⟩ "AlmanacOfTheYearGone") s := hK.2 _ (List.mem_of_getElem? (i := 54) rfl)
  have w4 := va_Nw.use (A := [.ref (gA G i0)].toArray) rfl w4n
  have w5 := hts (.static yX4_size) (by decide +kernel)
  have hl := lv_entry ([.ref (gA G i0)]) (n := 1) (Nat.le_of_ble_eq_true rfl)
  rw [lg_entry_eq]
  generalize (lg_sl ([.ref (gA G i0)]) ++ List.replicate (1 - (lg_sl ([.ref (gA G i0)])).length) Slot.unset).toArray = ls at hl ⊢
  have hl : lv_has ls 1 [(0, .ref (gA G i0))] := hl
  unfold f_X1_size at hF
  refine lv_aload_n hx hb dX1_size_0 rfl (lv_at hl 0 rfl) ?_
  refine va_get (ci := 1) (C := RX1) (T := TX1) (N := 7) (v := .int (σ i0 0)) hx hb hts inX1 hown hK.1 hP i0 (at_1 hk0) rfl 0 (by decide) w1 (fun _ h9 => h9) rfl dX1_size_1 ?_
  refine lv_aload_n hx hb dX1_size_4 rfl (lv_at hl 0 rfl) ?_
  refine va_get (ci := 1) (C := RX1) (T := TX1) (N := 7) (v := .int (σ i0 1)) hx hb hts inX1 hown hK.1 hP i0 (at_1 hk0) rfl 1 (by decide) w2 (fun _ h9 => h9) rfl dX1_size_5 ?_
  refine k_SNv (As := [.int (σ i0 0), .int (σ i0 1)]) (rest := []) Z hK hP hS (t_X4_size l G hG (σ i0 0) (σ i0 1) σ) ⟨va_cnB 2 hts gX1_size_X4_size_n38 rfl rfl rfl w4n w3 (by decide +kernel) ⟨Nat.le_of_ble_eq_true rfl, Nat.le_of_ble_eq_true rfl⟩, w5, trivial⟩ rfl hl.1 rfl (Nat.le_of_ble_eq_true rfl) ⟨Nat.zero_le _, Nat.zero_le _⟩ dX1_size_8 (fun H locs hP hS => ?_)
  exact e_iT hx hb hr hP hS hlocks dX1_size_11 hF
def f_X1_burden (i0 : Nat) (σ : St) : Int32 := (f_X4_burden (σ i0 0) (σ i0 1))
set_option maxRecDepth 100000 in
set_option maxHeartbeats 4000000 in
theorem t_X1_burden (l : Launch) (G : GT) (hG : Dw G) (i0 : Nat) (hk0 : kd i0 = 1) (σ : St) : Ct l G yX1_burden wsX1_burden 1 24 [.ref (gA G i0)] σ (some (.int (f_X1_burden i0 σ))) σ := by
  obtain ⟨o, hF⟩ : ∃ o, f_X1_burden i0 σ = o := ⟨_, rfl⟩
  rw [hF]
  refine Met.ofW (cc := cX1_burden) (maxL := 1) (ret := (some .int)) (by decide) rfl ?_
  intro p e s m args below meth c s₁ B hml hv
  obtain ⟨rfl, hP, hK⟩ := hv
  have hx := B.exec
  have hb := B.bytes
  have hr := B.returns
  have hts := atoms_spec (ws := wsX1_burden) B.pre
  have hown : s.vm.findClass RX1 = some m.cls := findClass_of_methodNamed B.named
  have hlocks := B.notSynchronized
  have Z : CallFix p m c cX1_burden 1 s _ wsX1_burden RX1 := ⟨hx, hb, hml, hown, hts⟩
  have hS : va_S (AG G) s.heap s.heap [] := va_S.rf
  have inX1 : ∀ w ∈ u_ws RX1 TX1 7, w ∈ wsX1_burden := by decide +kernel
  have w1 := hts (.fieldLink RX1 7 "AlmanacOfTheYearGone$Deed" "kind" "I") (by decide +kernel)
  have w2 := hts (.fieldLink RX1 13 "AlmanacOfTheYearGone$Deed" "figure" "I") (by decide +kernel)
  have w3 := hts (.initialized RX4) (by decide +kernel)
  have w4n : va_Nw (.methodLinkNest "AlmanacOfTheYearGone$Deed" 41 ⟨"AlmanacOfTheYearGone$Law", "burden", "(II)I"⟩ "AlmanacOfTheYearGone") s := hK.2 _ (List.mem_of_getElem? (i := 56) rfl)
  have w4 := va_Nw.use (A := [.ref (gA G i0)].toArray) rfl w4n
  have w5 := hts (.static yX4_burden) (by decide +kernel)
  have hl := lv_entry ([.ref (gA G i0)]) (n := 1) (Nat.le_of_ble_eq_true rfl)
  rw [lg_entry_eq]
  generalize (lg_sl ([.ref (gA G i0)]) ++ List.replicate (1 - (lg_sl ([.ref (gA G i0)])).length) Slot.unset).toArray = ls at hl ⊢
  have hl : lv_has ls 1 [(0, .ref (gA G i0))] := hl
  unfold f_X1_burden at hF
  refine lv_aload_n hx hb dX1_burden_0 rfl (lv_at hl 0 rfl) ?_
  refine va_get (ci := 1) (C := RX1) (T := TX1) (N := 7) (v := .int (σ i0 0)) hx hb hts inX1 hown hK.1 hP i0 (at_1 hk0) rfl 0 (by decide) w1 (fun _ h9 => h9) rfl dX1_burden_1 ?_
  refine lv_aload_n hx hb dX1_burden_4 rfl (lv_at hl 0 rfl) ?_
  refine va_get (ci := 1) (C := RX1) (T := TX1) (N := 7) (v := .int (σ i0 1)) hx hb hts inX1 hown hK.1 hP i0 (at_1 hk0) rfl 1 (by decide) w2 (fun _ h9 => h9) rfl dX1_burden_5 ?_
  refine k_SNv (As := [.int (σ i0 0), .int (σ i0 1)]) (rest := []) Z hK hP hS (t_X4_burden l G hG (σ i0 0) (σ i0 1) σ) ⟨va_cnB 2 hts gX1_burden_X4_burden_n41 rfl rfl rfl w4n w3 (by decide +kernel) ⟨Nat.le_of_ble_eq_true rfl, Nat.le_of_ble_eq_true rfl⟩, w5, trivial⟩ rfl hl.1 rfl (Nat.le_of_ble_eq_true rfl) ⟨Nat.zero_le _, Nat.zero_le _⟩ dX1_burden_8 (fun H locs hP hS => ?_)
  exact e_iT hx hb hr hP hS hlocks dX1_burden_11 hF
def f_X1_lastingFor (i0 : Nat) (x1 : Int32) (σ : St) : Int32 := (if x1 = (σ i0 3) then (σ i0 6) else (σ i0 5))
set_option maxRecDepth 100000 in
set_option maxHeartbeats 4000000 in
theorem t_X1_lastingFor (l : Launch) (G : GT) (hG : Dw G) (i0 : Nat) (x1 : Int32) (hk0 : kd i0 = 1) (σ : St) : Ct l G yX1_lastingFor wsX1_lastingFor 0 0 [.ref (gA G i0), .int x1] σ (some (.int (f_X1_lastingFor i0 x1 σ))) σ := by
  obtain ⟨o, hF⟩ : ∃ o, f_X1_lastingFor i0 x1 σ = o := ⟨_, rfl⟩
  rw [hF]
  refine Met.ofW (cc := cX1_lastingFor) (maxL := 2) (ret := (some .int)) (by decide) rfl ?_
  intro p e s m args below meth c s₁ B hml hv
  obtain ⟨rfl, hP, hK⟩ := hv
  have hx := B.exec
  have hb := B.bytes
  have hr := B.returns
  have hts := atoms_spec (ws := wsX1_lastingFor) B.pre
  have hown : s.vm.findClass RX1 = some m.cls := findClass_of_methodNamed B.named
  have hlocks := B.notSynchronized
  have Z : CallFix p m c cX1_lastingFor 2 s _ wsX1_lastingFor RX1 := ⟨hx, hb, hml, hown, hts⟩
  have hS : va_S (AG G) s.heap s.heap [] := va_S.rf
  have inX1 : ∀ w ∈ u_ws RX1 TX1 7, w ∈ wsX1_lastingFor := by decide +kernel
  have w1 := hts (.fieldLink RX1 19 "AlmanacOfTheYearGone$Deed" "who" "I") (by decide +kernel)
  have w2 := hts (.fieldLink RX1 31 "AlmanacOfTheYearGone$Deed" "lasting" "I") (by decide +kernel)
  have w3 := hts (.fieldLink RX1 36 "AlmanacOfTheYearGone$Deed" "lastingOwn" "I") (by decide +kernel)
  have hl := lv_entry ([.ref (gA G i0), .int x1]) (n := 2) (Nat.le_of_ble_eq_true rfl)
  rw [lg_entry_eq]
  generalize (lg_sl ([.ref (gA G i0), .int x1]) ++ List.replicate (2 - (lg_sl ([.ref (gA G i0), .int x1])).length) Slot.unset).toArray = ls at hl ⊢
  have hl : lv_has ls 2 [(0, .ref (gA G i0)), (1, .int x1)] := hl
  unfold f_X1_lastingFor at hF
  refine lv_iload_n hx hb dX1_lastingFor_0 rfl (lv_at hl 1 rfl) ?_
  refine lv_aload_n hx hb dX1_lastingFor_1 rfl (lv_at hl 0 rfl) ?_
  refine va_get (ci := 1) (C := RX1) (T := TX1) (N := 7) (v := .int (σ i0 3)) hx hb hts inX1 hown hK.1 hP i0 (at_1 hk0) rfl 3 (by decide) w1 (fun _ h9 => h9) rfl dX1_lastingFor_2 ?_
  refine lv_icmp_ne (tgt := 15) hx hb dX1_lastingFor_5 (by decide) (fun c1 => ?_) (fun c1 => ?_)
  · have hF := ite_f c1 hF
    refine lv_aload_n hx hb dX1_lastingFor_15 rfl (lv_at hl 0 rfl) ?_
    refine va_get (ci := 1) (C := RX1) (T := TX1) (N := 7) (v := .int (σ i0 5)) hx hb hts inX1 hown hK.1 hP i0 (at_1 hk0) rfl 5 (by decide) w2 (fun _ h9 => h9) rfl dX1_lastingFor_16 ?_
    exact e_iT hx hb hr hP hS hlocks dX1_lastingFor_19 hF
  · have hF := ite_t c1 hF
    refine lv_aload_n hx hb dX1_lastingFor_8 rfl (lv_at hl 0 rfl) ?_
    refine va_get (ci := 1) (C := RX1) (T := TX1) (N := 7) (v := .int (σ i0 6)) hx hb hts inX1 hown hK.1 hP i0 (at_1 hk0) rfl 6 (by decide) w3 (fun _ h9 => h9) rfl dX1_lastingFor_9 ?_
    refine lv_goto (tgt := 19) hx hb dX1_lastingFor_12 (by decide) ?_
    exact e_iT hx hb hr hP hS hlocks dX1_lastingFor_19 hF
def f_X1_isKnown_19 (i0 : Nat) (x1 : Int32) (σ : St) : Bool := true
theorem f_X1_isKnown_19_e {i0 : Nat} {x1 : Int32} {σ : St} : f_X1_isKnown_19 i0 x1 σ  = true := rfl
def f_X1_isKnown (i0 : Nat) (x1 : Int32) (σ : St) : Bool := (if x1 = (σ i0 3) then f_X1_isKnown_19 i0 x1 σ else (if (((σ i0 4) >>> (x1 &&& 31)) &&& (1 : Int32)) = 0 then false else f_X1_isKnown_19 i0 x1 σ))
set_option maxRecDepth 100000 in
set_option maxHeartbeats 4000000 in
theorem t_X1_isKnown (l : Launch) (G : GT) (hG : Dw G) (i0 : Nat) (x1 : Int32) (hk0 : kd i0 = 1) (σ : St) : Ct l G yX1_isKnown wsX1_isKnown 0 0 [.ref (gA G i0), .int x1] σ (some (.int (b2i (f_X1_isKnown i0 x1 σ)))) σ := by
  obtain ⟨o, hF⟩ : ∃ o, f_X1_isKnown i0 x1 σ = o := ⟨_, rfl⟩
  rw [hF]
  refine Met.ofW (cc := cX1_isKnown) (maxL := 2) (ret := (some .boolean)) (by decide) rfl ?_
  intro p e s m args below meth c s₁ B hml hv
  obtain ⟨rfl, hP, hK⟩ := hv
  have hx := B.exec
  have hb := B.bytes
  have hr := B.returns
  have hts := atoms_spec (ws := wsX1_isKnown) B.pre
  have hown : s.vm.findClass RX1 = some m.cls := findClass_of_methodNamed B.named
  have hlocks := B.notSynchronized
  have Z : CallFix p m c cX1_isKnown 2 s _ wsX1_isKnown RX1 := ⟨hx, hb, hml, hown, hts⟩
  have hS : va_S (AG G) s.heap s.heap [] := va_S.rf
  have inX1 : ∀ w ∈ u_ws RX1 TX1 7, w ∈ wsX1_isKnown := by decide +kernel
  have w1 := hts (.fieldLink RX1 19 "AlmanacOfTheYearGone$Deed" "who" "I") (by decide +kernel)
  have w2 := hts (.fieldLink RX1 22 "AlmanacOfTheYearGone$Deed" "seen" "I") (by decide +kernel)
  have hl := lv_entry ([.ref (gA G i0), .int x1]) (n := 2) (Nat.le_of_ble_eq_true rfl)
  rw [lg_entry_eq]
  generalize (lg_sl ([.ref (gA G i0), .int x1]) ++ List.replicate (2 - (lg_sl ([.ref (gA G i0), .int x1])).length) Slot.unset).toArray = ls at hl ⊢
  have hl : lv_has ls 2 [(0, .ref (gA G i0)), (1, .int x1)] := hl
  unfold f_X1_isKnown at hF
  refine lv_iload_n hx hb dX1_isKnown_0 rfl (lv_at hl 1 rfl) ?_
  refine lv_aload_n hx hb dX1_isKnown_1 rfl (lv_at hl 0 rfl) ?_
  refine va_get (ci := 1) (C := RX1) (T := TX1) (N := 7) (v := .int (σ i0 3)) hx hb hts inX1 hown hK.1 hP i0 (at_1 hk0) rfl 3 (by decide) w1 (fun _ h9 => h9) rfl dX1_isKnown_2 ?_
  have J19 : ∀ (H : Heap) (locs : List Loc) (hP : Pw G σ H) (hS : va_S (AG G) s.heap H locs) (ls : Array Slot) (hl : lv_has ls 2 [(0, .ref (gA G i0)), (1, .int x1)]) (hF : f_X1_isKnown_19 i0 x1 σ  = o), W p l e (headSpec wsX1_isKnown ({ frames := 0, cells := 0, slots := 0, locals := 0 })).room s m ([.ref (gA G i0), .int x1] : List Value).toArray below meth c H locs 0 0 (MQ below (qR G (some (.int (b2i o))) σ) ([.ref (gA G i0), .int x1] : List Value).toArray s 0 0 (AG G)) (F0 m 19 ls []) := by
    intro  H locs hP hS ls hl hF
    rw [f_X1_isKnown_19_e] at hF
    refine lv_iconst (v := 1) hx hb dX1_isKnown_19 (by decide) ?_
    refine lv_goto (tgt := 24) hx hb dX1_isKnown_20 (by decide) ?_
    exact e_zT (b := true) hx hb hr hP hS hlocks dX1_isKnown_24 rfl hF
  refine lv_icmp_eq (tgt := 19) hx hb dX1_isKnown_5 (by decide) (fun c1 => ?_) (fun c1 => ?_)
  · have hF := ite_t c1 hF
    exact J19  _ _ hP hS ls (lv_sub hl [0, 1] rfl) hF
  · have hF := ite_f c1 hF
    refine lv_aload_n hx hb dX1_isKnown_8 rfl (lv_at hl 0 rfl) ?_
    refine va_get (ci := 1) (C := RX1) (T := TX1) (N := 7) (v := .int (σ i0 4)) hx hb hts inX1 hown hK.1 hP i0 (at_1 hk0) rfl 4 (by decide) w2 (fun _ h9 => h9) rfl dX1_isKnown_9 ?_
    refine lv_iload_n hx hb dX1_isKnown_12 rfl (lv_at hl 1 rfl) ?_
    refine lv_ishr hx hb dX1_isKnown_13 ?_
    refine lv_iconst (v := 1) hx hb dX1_isKnown_14 (by decide) ?_
    refine lv_iand hx hb dX1_isKnown_15 ?_
    refine lv_if_eq (tgt := 23) hx hb dX1_isKnown_16 (by decide) (fun c2 => ?_) (fun c2 => ?_)
    · have hF := ite_t c2 hF
      refine lv_iconst (v := 0) hx hb dX1_isKnown_23 (by decide) ?_
      exact e_zT (b := false) hx hb hr hP hS hlocks dX1_isKnown_24 rfl hF
    · have hF := ite_f c2 hF
      exact J19  _ _ hP hS ls (lv_sub hl [0, 1] rfl) hF
def f_X1_isKept (i0 : Nat) (x1 : Int32) (x2 : Int32) (σ : St) : Bool := (if x2 < (σ i0 2) then false else (if (f_X1_isKnown i0 x1 σ) = true then (if (f_X1_lastingFor i0 x1 σ) < (x2 - (σ i0 2)) then false else true) else false))
set_option maxRecDepth 100000 in
set_option maxHeartbeats 4000000 in
theorem t_X1_isKept (l : Launch) (G : GT) (hG : Dw G) (i0 : Nat) (x1 : Int32) (x2 : Int32) (hk0 : kd i0 = 1) (σ : St) : Ct l G yX1_isKept wsX1_isKept 1 21 [.ref (gA G i0), .int x1, .int x2] σ (some (.int (b2i (f_X1_isKept i0 x1 x2 σ)))) σ := by
  obtain ⟨o, hF⟩ : ∃ o, f_X1_isKept i0 x1 x2 σ = o := ⟨_, rfl⟩
  rw [hF]
  refine Met.ofW (cc := cX1_isKept) (maxL := 3) (ret := (some .boolean)) (by decide) rfl ?_
  intro p e s m args below meth c s₁ B hml hv
  obtain ⟨rfl, hP, hK⟩ := hv
  have hx := B.exec
  have hb := B.bytes
  have hr := B.returns
  have hts := atoms_spec (ws := wsX1_isKept) B.pre
  have hown : s.vm.findClass RX1 = some m.cls := findClass_of_methodNamed B.named
  have hlocks := B.notSynchronized
  have Z : CallFix p m c cX1_isKept 3 s _ wsX1_isKept RX1 := ⟨hx, hb, hml, hown, hts⟩
  have hS : va_S (AG G) s.heap s.heap [] := va_S.rf
  have inX1 : ∀ w ∈ u_ws RX1 TX1 7, w ∈ wsX1_isKept := by decide +kernel
  have w1 := hts (.fieldLink RX1 16 "AlmanacOfTheYearGone$Deed" "day" "I") (by decide +kernel)
  have hl := lv_entry ([.ref (gA G i0), .int x1, .int x2]) (n := 3) (Nat.le_of_ble_eq_true rfl)
  rw [lg_entry_eq]
  generalize (lg_sl ([.ref (gA G i0), .int x1, .int x2]) ++ List.replicate (3 - (lg_sl ([.ref (gA G i0), .int x1, .int x2])).length) Slot.unset).toArray = ls at hl ⊢
  have hl : lv_has ls 3 [(0, .ref (gA G i0)), (1, .int x1), (2, .int x2)] := hl
  unfold f_X1_isKept at hF
  refine lv_aload_n hx hb dX1_isKept_0 rfl (lv_at hl 0 rfl) ?_
  refine va_get (ci := 1) (C := RX1) (T := TX1) (N := 7) (v := .int (σ i0 2)) hx hb hts inX1 hown hK.1 hP i0 (at_1 hk0) rfl 2 (by decide) w1 (fun _ h9 => h9) rfl dX1_isKept_1 ?_
  refine lv_iload_n hx hb dX1_isKept_4 rfl (lv_at hl 2 rfl) ?_
  refine lv_icmp_gt (tgt := 34) hx hb dX1_isKept_5 (by decide) (fun c1 => ?_) (fun c1 => ?_)
  · have hF := ite_t c1 hF
    refine lv_iconst (v := 0) hx hb dX1_isKept_34 (by decide) ?_
    exact e_zT (b := false) hx hb hr hP hS hlocks dX1_isKept_35 rfl hF
  · have hF := ite_f c1 hF
    refine lv_aload_n hx hb dX1_isKept_8 rfl (lv_at hl 0 rfl) ?_
    refine lv_iload_n hx hb dX1_isKept_9 rfl (lv_at hl 1 rfl) ?_
    refine k_Vv (As := [.int x1]) (rest := []) Z hK hP hS (t_X1_isKnown l G hG i0 x1 hk0 σ) (cwV 1 hts gX1_isKept_X1_isKnown rfl rfl rfl (by decide +kernel) ⟨Nat.le_of_ble_eq_true rfl, Nat.le_of_ble_eq_true rfl⟩) (at_1 hk0) rfl rfl hl.1 rfl (Nat.le_of_ble_eq_true rfl) ⟨Nat.zero_le _, Nat.zero_le _⟩ dX1_isKept_10 (fun H locs hP hS => ?_)
    refine lv_if_eq (tgt := 34) hx hb dX1_isKept_13 (by decide) (fun c2 => ?_) (fun c2 => ?_)
    · have hF := ite_f (b2i_e0 c2) hF
      refine lv_iconst (v := 0) hx hb dX1_isKept_34 (by decide) ?_
      exact e_zT (b := false) hx hb hr hP hS hlocks dX1_isKept_35 rfl hF
    · have hF := ite_t (b2i_n0 c2) hF
      refine lv_iload_n hx hb dX1_isKept_16 rfl (lv_at hl 2 rfl) ?_
      refine lv_aload_n hx hb dX1_isKept_17 rfl (lv_at hl 0 rfl) ?_
      refine va_get (ci := 1) (C := RX1) (T := TX1) (N := 7) (v := .int (σ i0 2)) hx hb hts inX1 hown hK.1 hP i0 (at_1 hk0) rfl 2 (by decide) w1 (fun _ h9 => h9) rfl dX1_isKept_18 ?_
      refine lv_isub hx hb dX1_isKept_21 ?_
      refine lv_aload_n hx hb dX1_isKept_22 rfl (lv_at hl 0 rfl) ?_
      refine lv_iload_n hx hb dX1_isKept_23 rfl (lv_at hl 1 rfl) ?_
      refine k_Vv (As := [.int x1]) (rest := [.int (x2 - (σ i0 2))]) Z hK hP hS (t_X1_lastingFor l G hG i0 x1 hk0 σ) (cwV 1 hts gX1_isKept_X1_lastingFor rfl rfl rfl (by decide +kernel) ⟨Nat.le_of_ble_eq_true rfl, Nat.le_of_ble_eq_true rfl⟩) (at_1 hk0) rfl rfl hl.1 rfl (Nat.le_of_ble_eq_true rfl) ⟨Nat.zero_le _, Nat.zero_le _⟩ dX1_isKept_24 (fun H locs hP hS => ?_)
      refine lv_icmp_gt (tgt := 34) hx hb dX1_isKept_27 (by decide) (fun c3 => ?_) (fun c3 => ?_)
      · have hF := ite_t c3 hF
        refine lv_iconst (v := 0) hx hb dX1_isKept_34 (by decide) ?_
        exact e_zT (b := false) hx hb hr hP hS hlocks dX1_isKept_35 rfl hF
      · have hF := ite_f c3 hF
        refine lv_iconst (v := 1) hx hb dX1_isKept_30 (by decide) ?_
        refine lv_goto (tgt := 35) hx hb dX1_isKept_31 (by decide) ?_
        exact e_zT (b := true) hx hb hr hP hS hlocks dX1_isKept_35 rfl hF
def f_X1_keepersAfter_18 (i0 : Nat) (x1 : Int32) (σ : St) (z0 : Int32) : Int32 := (if (σ i0 5) < x1 then z0 else (z0 ||| (σ i0 4)))
theorem f_X1_keepersAfter_18_e {i0 : Nat} {x1 : Int32} {σ : St} {z0 : Int32} : f_X1_keepersAfter_18 i0 x1 σ z0 = (if (σ i0 5) < x1 then z0 else (z0 ||| (σ i0 4))) := rfl
def f_X1_keepersAfter (i0 : Nat) (x1 : Int32) (σ : St) : Int32 := (if (σ i0 6) < x1 then (f_X1_keepersAfter_18 i0 x1 σ (0 : Int32)) else (f_X1_keepersAfter_18 i0 x1 σ ((1 : Int32) <<< ((σ i0 3) &&& 31))))
set_option maxRecDepth 100000 in
set_option maxHeartbeats 4000000 in
theorem t_X1_keepersAfter (l : Launch) (G : GT) (hG : Dw G) (i0 : Nat) (x1 : Int32) (hk0 : kd i0 = 1) (σ : St) : Ct l G yX1_keepersAfter wsX1_keepersAfter 0 0 [.ref (gA G i0), .int x1] σ (some (.int (f_X1_keepersAfter i0 x1 σ))) σ := by
  obtain ⟨o, hF⟩ : ∃ o, f_X1_keepersAfter i0 x1 σ = o := ⟨_, rfl⟩
  rw [hF]
  refine Met.ofW (cc := cX1_keepersAfter) (maxL := 3) (ret := (some .int)) (by decide) rfl ?_
  intro p e s m args below meth c s₁ B hml hv
  obtain ⟨rfl, hP, hK⟩ := hv
  have hx := B.exec
  have hb := B.bytes
  have hr := B.returns
  have hts := atoms_spec (ws := wsX1_keepersAfter) B.pre
  have hown : s.vm.findClass RX1 = some m.cls := findClass_of_methodNamed B.named
  have hlocks := B.notSynchronized
  have Z : CallFix p m c cX1_keepersAfter 3 s _ wsX1_keepersAfter RX1 := ⟨hx, hb, hml, hown, hts⟩
  have hS : va_S (AG G) s.heap s.heap [] := va_S.rf
  have inX1 : ∀ w ∈ u_ws RX1 TX1 7, w ∈ wsX1_keepersAfter := by decide +kernel
  have w1 := hts (.fieldLink RX1 36 "AlmanacOfTheYearGone$Deed" "lastingOwn" "I") (by decide +kernel)
  have w2 := hts (.fieldLink RX1 31 "AlmanacOfTheYearGone$Deed" "lasting" "I") (by decide +kernel)
  have w3 := hts (.fieldLink RX1 22 "AlmanacOfTheYearGone$Deed" "seen" "I") (by decide +kernel)
  have w4 := hts (.fieldLink RX1 19 "AlmanacOfTheYearGone$Deed" "who" "I") (by decide +kernel)
  have hl := lv_entry ([.ref (gA G i0), .int x1]) (n := 3) (Nat.le_of_ble_eq_true rfl)
  rw [lg_entry_eq]
  generalize (lg_sl ([.ref (gA G i0), .int x1]) ++ List.replicate (3 - (lg_sl ([.ref (gA G i0), .int x1])).length) Slot.unset).toArray = ls at hl ⊢
  have hl : lv_has ls 3 [(0, .ref (gA G i0)), (1, .int x1)] := hl
  unfold f_X1_keepersAfter at hF
  refine lv_iload_n hx hb dX1_keepersAfter_0 rfl (lv_at hl 1 rfl) ?_
  refine lv_aload_n hx hb dX1_keepersAfter_1 rfl (lv_at hl 0 rfl) ?_
  refine va_get (ci := 1) (C := RX1) (T := TX1) (N := 7) (v := .int (σ i0 6)) hx hb hts inX1 hown hK.1 hP i0 (at_1 hk0) rfl 6 (by decide) w1 (fun _ h9 => h9) rfl dX1_keepersAfter_2 ?_
  have J18 : ∀ (z0 : Int32) (H : Heap) (locs : List Loc) (hP : Pw G σ H) (hS : va_S (AG G) s.heap H locs) (ls : Array Slot) (hl : lv_has ls 3 [(0, .ref (gA G i0)), (1, .int x1)]) (hF : f_X1_keepersAfter_18 i0 x1 σ z0 = o), W p l e (headSpec wsX1_keepersAfter ({ frames := 0, cells := 0, slots := 0, locals := 0 })).room s m ([.ref (gA G i0), .int x1] : List Value).toArray below meth c H locs 0 0 (MQ below (qR G (some (.int o)) σ) ([.ref (gA G i0), .int x1] : List Value).toArray s 0 0 (AG G)) (F0 m 18 ls [.int z0]) := by
    intro z0 H locs hP hS ls hl hF
    rw [f_X1_keepersAfter_18_e] at hF
    refine lv_istore_n (lv' := [(2, .int z0), (0, .ref (gA G i0)), (1, .int x1)]) hx hb dX1_keepersAfter_18 rfl hl (by decide) rfl (fun ls hl => ?_)
    refine lv_iload_n hx hb dX1_keepersAfter_19 rfl (lv_at hl 2 rfl) ?_
    refine lv_aload_n hx hb dX1_keepersAfter_20 rfl (lv_at hl 1 rfl) ?_
    refine va_get (ci := 1) (C := RX1) (T := TX1) (N := 7) (v := .int (σ i0 5)) hx hb hts inX1 hown hK.1 hP i0 (at_1 hk0) rfl 5 (by decide) w2 (fun _ h9 => h9) rfl dX1_keepersAfter_21 ?_
    refine lv_icmp_gt (tgt := 36) hx hb dX1_keepersAfter_24 (by decide) (fun c1 => ?_) (fun c1 => ?_)
    · have hF := ite_t c1 hF
      refine lv_iload_n hx hb dX1_keepersAfter_36 rfl (lv_at hl 0 rfl) ?_
      exact e_iT hx hb hr hP hS hlocks dX1_keepersAfter_37 hF
    · have hF := ite_f c1 hF
      refine lv_iload_n hx hb dX1_keepersAfter_27 rfl (lv_at hl 0 rfl) ?_
      refine lv_aload_n hx hb dX1_keepersAfter_28 rfl (lv_at hl 1 rfl) ?_
      refine va_get (ci := 1) (C := RX1) (T := TX1) (N := 7) (v := .int (σ i0 4)) hx hb hts inX1 hown hK.1 hP i0 (at_1 hk0) rfl 4 (by decide) w3 (fun _ h9 => h9) rfl dX1_keepersAfter_29 ?_
      refine lv_ior hx hb dX1_keepersAfter_32 ?_
      refine lv_goto (tgt := 37) hx hb dX1_keepersAfter_33 (by decide) ?_
      exact e_iT hx hb hr hP hS hlocks dX1_keepersAfter_37 hF
  refine lv_icmp_gt (tgt := 17) hx hb dX1_keepersAfter_5 (by decide) (fun c2 => ?_) (fun c2 => ?_)
  · have hF := ite_t c2 hF
    refine lv_iconst (v := 0) hx hb dX1_keepersAfter_17 (by decide) ?_
    exact J18 (0 : Int32) _ _ hP hS ls (lv_sub hl [0, 1] rfl) hF
  · have hF := ite_f c2 hF
    refine lv_iconst (v := 1) hx hb dX1_keepersAfter_8 (by decide) ?_
    refine lv_aload_n hx hb dX1_keepersAfter_9 rfl (lv_at hl 0 rfl) ?_
    refine va_get (ci := 1) (C := RX1) (T := TX1) (N := 7) (v := .int (σ i0 3)) hx hb hts inX1 hown hK.1 hP i0 (at_1 hk0) rfl 3 (by decide) w4 (fun _ h9 => h9) rfl dX1_keepersAfter_10 ?_
    refine lv_ishl hx hb dX1_keepersAfter_13 ?_
    refine lv_goto (tgt := 18) hx hb dX1_keepersAfter_14 (by decide) ?_
    exact J18 ((1 : Int32) <<< ((σ i0 3) &&& 31)) _ _ hP hS ls (lv_sub hl [0, 1] rfl) hF
def f_X1_keepers (i0 : Nat) (x1 : Int32) (σ : St) : Int32 := (if x1 < (σ i0 2) then ((0 : Int32)) else (f_X1_keepersAfter i0 (x1 - (σ i0 2)) σ))
set_option maxRecDepth 100000 in
set_option maxHeartbeats 4000000 in
theorem t_X1_keepers (l : Launch) (G : GT) (hG : Dw G) (i0 : Nat) (x1 : Int32) (hk0 : kd i0 = 1) (σ : St) : Ct l G yX1_keepers wsX1_keepers 1 22 [.ref (gA G i0), .int x1] σ (some (.int (f_X1_keepers i0 x1 σ))) σ := by
  obtain ⟨o, hF⟩ : ∃ o, f_X1_keepers i0 x1 σ = o := ⟨_, rfl⟩
  rw [hF]
  refine Met.ofW (cc := cX1_keepers) (maxL := 2) (ret := (some .int)) (by decide) rfl ?_
  intro p e s m args below meth c s₁ B hml hv
  obtain ⟨rfl, hP, hK⟩ := hv
  have hx := B.exec
  have hb := B.bytes
  have hr := B.returns
  have hts := atoms_spec (ws := wsX1_keepers) B.pre
  have hown : s.vm.findClass RX1 = some m.cls := findClass_of_methodNamed B.named
  have hlocks := B.notSynchronized
  have Z : CallFix p m c cX1_keepers 2 s _ wsX1_keepers RX1 := ⟨hx, hb, hml, hown, hts⟩
  have hS : va_S (AG G) s.heap s.heap [] := va_S.rf
  have inX1 : ∀ w ∈ u_ws RX1 TX1 7, w ∈ wsX1_keepers := by decide +kernel
  have w1 := hts (.fieldLink RX1 16 "AlmanacOfTheYearGone$Deed" "day" "I") (by decide +kernel)
  have hl := lv_entry ([.ref (gA G i0), .int x1]) (n := 2) (Nat.le_of_ble_eq_true rfl)
  rw [lg_entry_eq]
  generalize (lg_sl ([.ref (gA G i0), .int x1]) ++ List.replicate (2 - (lg_sl ([.ref (gA G i0), .int x1])).length) Slot.unset).toArray = ls at hl ⊢
  have hl : lv_has ls 2 [(0, .ref (gA G i0)), (1, .int x1)] := hl
  unfold f_X1_keepers at hF
  refine lv_aload_n hx hb dX1_keepers_0 rfl (lv_at hl 0 rfl) ?_
  refine va_get (ci := 1) (C := RX1) (T := TX1) (N := 7) (v := .int (σ i0 2)) hx hb hts inX1 hown hK.1 hP i0 (at_1 hk0) rfl 2 (by decide) w1 (fun _ h9 => h9) rfl dX1_keepers_1 ?_
  refine lv_iload_n hx hb dX1_keepers_4 rfl (lv_at hl 1 rfl) ?_
  refine lv_icmp_gt (tgt := 21) hx hb dX1_keepers_5 (by decide) (fun c1 => ?_) (fun c1 => ?_)
  · have hF := ite_t c1 hF
    refine lv_iconst (v := 0) hx hb dX1_keepers_21 (by decide) ?_
    exact e_iT hx hb hr hP hS hlocks dX1_keepers_22 hF
  · have hF := ite_f c1 hF
    refine lv_aload_n hx hb dX1_keepers_8 rfl (lv_at hl 0 rfl) ?_
    refine lv_iload_n hx hb dX1_keepers_9 rfl (lv_at hl 1 rfl) ?_
    refine lv_aload_n hx hb dX1_keepers_10 rfl (lv_at hl 0 rfl) ?_
    refine va_get (ci := 1) (C := RX1) (T := TX1) (N := 7) (v := .int (σ i0 2)) hx hb hts inX1 hown hK.1 hP i0 (at_1 hk0) rfl 2 (by decide) w1 (fun _ h9 => h9) rfl dX1_keepers_11 ?_
    refine lv_isub hx hb dX1_keepers_14 ?_
    refine k_Vv (As := [.int (x1 - (σ i0 2))]) (rest := []) Z hK hP hS (t_X1_keepersAfter l G hG i0 (x1 - (σ i0 2)) hk0 σ) (cwV 1 hts gX1_keepers_X1_keepersAfter rfl rfl rfl (by decide +kernel) ⟨Nat.le_of_ble_eq_true rfl, Nat.le_of_ble_eq_true rfl⟩) (at_1 hk0) rfl rfl hl.1 rfl (Nat.le_of_ble_eq_true rfl) ⟨Nat.zero_le _, Nat.zero_le _⟩ dX1_keepers_15 (fun H locs hP hS => ?_)
    refine lv_goto (tgt := 22) hx hb dX1_keepers_18 (by decide) ?_
    exact e_iT hx hb hr hP hS hlocks dX1_keepers_22 hF
def f_X1_watchersLost (i0 : Nat) (x1 : Int32) (σ : St) : Int32 := (f_J6_bitCount_0f7a4 ((σ i0 4) &&& ((f_X1_keepers i0 x1 σ) ^^^ (-1 : Int32))))
set_option maxRecDepth 100000 in
set_option maxHeartbeats 4000000 in
theorem t_X1_watchersLost (l : Launch) (G : GT) (hG : Dw G) (i0 : Nat) (x1 : Int32) (hk0 : kd i0 = 1) (σ : St) : Ct l G yX1_watchersLost wsX1_watchersLost 2 43 [.ref (gA G i0), .int x1] σ (some (.int (f_X1_watchersLost i0 x1 σ))) σ := by
  obtain ⟨o, hF⟩ : ∃ o, f_X1_watchersLost i0 x1 σ = o := ⟨_, rfl⟩
  rw [hF]
  refine Met.ofW (cc := cX1_watchersLost) (maxL := 2) (ret := (some .int)) (by decide) rfl ?_
  intro p e s m args below meth c s₁ B hml hv
  obtain ⟨rfl, hP, hK⟩ := hv
  have hx := B.exec
  have hb := B.bytes
  have hr := B.returns
  have hts := atoms_spec (ws := wsX1_watchersLost) B.pre
  have hown : s.vm.findClass RX1 = some m.cls := findClass_of_methodNamed B.named
  have hlocks := B.notSynchronized
  have Z : CallFix p m c cX1_watchersLost 2 s _ wsX1_watchersLost RX1 := ⟨hx, hb, hml, hown, hts⟩
  have hS : va_S (AG G) s.heap s.heap [] := va_S.rf
  have inX1 : ∀ w ∈ u_ws RX1 TX1 7, w ∈ wsX1_watchersLost := by decide +kernel
  have w1 := hts (.fieldLink RX1 22 "AlmanacOfTheYearGone$Deed" "seen" "I") (by decide +kernel)
  have hl := lv_entry ([.ref (gA G i0), .int x1]) (n := 2) (Nat.le_of_ble_eq_true rfl)
  rw [lg_entry_eq]
  generalize (lg_sl ([.ref (gA G i0), .int x1]) ++ List.replicate (2 - (lg_sl ([.ref (gA G i0), .int x1])).length) Slot.unset).toArray = ls at hl ⊢
  have hl : lv_has ls 2 [(0, .ref (gA G i0)), (1, .int x1)] := hl
  unfold f_X1_watchersLost at hF
  refine lv_aload_n hx hb dX1_watchersLost_0 rfl (lv_at hl 0 rfl) ?_
  refine va_get (ci := 1) (C := RX1) (T := TX1) (N := 7) (v := .int (σ i0 4)) hx hb hts inX1 hown hK.1 hP i0 (at_1 hk0) rfl 4 (by decide) w1 (fun _ h9 => h9) rfl dX1_watchersLost_1 ?_
  refine lv_aload_n hx hb dX1_watchersLost_4 rfl (lv_at hl 0 rfl) ?_
  refine lv_iload_n hx hb dX1_watchersLost_5 rfl (lv_at hl 1 rfl) ?_
  refine k_Vv (As := [.int x1]) (rest := [.int (σ i0 4)]) Z hK hP hS (t_X1_keepers l G hG i0 x1 hk0 σ) (cwV 1 hts gX1_watchersLost_X1_keepers rfl rfl rfl (by decide +kernel) ⟨Nat.le_of_ble_eq_true rfl, Nat.le_of_ble_eq_true rfl⟩) (at_1 hk0) rfl rfl hl.1 rfl (Nat.le_of_ble_eq_true rfl) ⟨Nat.zero_le _, Nat.zero_le _⟩ dX1_watchersLost_6 (fun H locs hP hS => ?_)
  refine lv_iconst (v := -1) hx hb dX1_watchersLost_9 (by decide) ?_
  refine lv_ixor hx hb dX1_watchersLost_10 ?_
  refine lv_iand hx hb dX1_watchersLost_11 ?_
  refine k_Sv (As := [.int ((σ i0 4) &&& ((f_X1_keepers i0 x1 σ) ^^^ (-1 : Int32)))]) (rest := []) Z hK hP hS (t_J6_bitCount_0f7a4 l G hG ((σ i0 4) &&& ((f_X1_keepers i0 x1 σ) ^^^ (-1 : Int32))) σ) (va_cwS 1 hts gX1_watchersLost_J6_bitCount_0f7a4 rfl rfl rfl (by decide +kernel) ⟨Nat.le_of_ble_eq_true rfl, Nat.le_of_ble_eq_true rfl⟩) rfl hl.1 rfl (Nat.le_of_ble_eq_true rfl) ⟨Nat.zero_le _, Nat.zero_le _⟩ dX1_watchersLost_12 (fun H locs hP hS => ?_)
  exact e_iT hx hb hr hP hS hlocks dX1_watchersLost_15 hF
def f_X1_isMatterBetween (i0 : Nat) (x1 : Int32) (x2 : Int32) (x3 : Int32) (σ : St) : Bool := (if (f_X1_isKnown i0 x1 σ) = true then (if (f_X1_isKnown i0 x2 σ) = true then (if (b2i (f_X1_isKept i0 x1 x3 σ)) = (b2i (f_X1_isKept i0 x2 x3 σ)) then false else true) else false) else false)
set_option maxRecDepth 100000 in
set_option maxHeartbeats 4000000 in
theorem t_X1_isMatterBetween (l : Launch) (G : GT) (hG : Dw G) (i0 : Nat) (x1 : Int32) (x2 : Int32) (x3 : Int32) (hk0 : kd i0 = 1) (σ : St) : Ct l G yX1_isMatterBetween wsX1_isMatterBetween 2 43 [.ref (gA G i0), .int x1, .int x2, .int x3] σ (some (.int (b2i (f_X1_isMatterBetween i0 x1 x2 x3 σ)))) σ := by
  obtain ⟨o, hF⟩ : ∃ o, f_X1_isMatterBetween i0 x1 x2 x3 σ = o := ⟨_, rfl⟩
  rw [hF]
  refine Met.ofW (cc := cX1_isMatterBetween) (maxL := 4) (ret := (some .boolean)) (by decide) rfl ?_
  intro p e s m args below meth c s₁ B hml hv
  obtain ⟨rfl, hP, hK⟩ := hv
  have hx := B.exec
  have hb := B.bytes
  have hr := B.returns
  have hts := atoms_spec (ws := wsX1_isMatterBetween) B.pre
  have hown : s.vm.findClass RX1 = some m.cls := findClass_of_methodNamed B.named
  have hlocks := B.notSynchronized
  have Z : CallFix p m c cX1_isMatterBetween 4 s _ wsX1_isMatterBetween RX1 := ⟨hx, hb, hml, hown, hts⟩
  have hS : va_S (AG G) s.heap s.heap [] := va_S.rf
  have hl := lv_entry ([.ref (gA G i0), .int x1, .int x2, .int x3]) (n := 4) (Nat.le_of_ble_eq_true rfl)
  rw [lg_entry_eq]
  generalize (lg_sl ([.ref (gA G i0), .int x1, .int x2, .int x3]) ++ List.replicate (4 - (lg_sl ([.ref (gA G i0), .int x1, .int x2, .int x3])).length) Slot.unset).toArray = ls at hl ⊢
  have hl : lv_has ls 4 [(0, .ref (gA G i0)), (1, .int x1), (2, .int x2), (3, .int x3)] := hl
  unfold f_X1_isMatterBetween at hF
  refine lv_aload_n hx hb dX1_isMatterBetween_0 rfl (lv_at hl 0 rfl) ?_
  refine lv_iload_n hx hb dX1_isMatterBetween_1 rfl (lv_at hl 1 rfl) ?_
  refine k_Vv (As := [.int x1]) (rest := []) Z hK hP hS (t_X1_isKnown l G hG i0 x1 hk0 σ) (cwV 1 hts gX1_isMatterBetween_X1_isKnown rfl rfl rfl (by decide +kernel) ⟨Nat.le_of_ble_eq_true rfl, Nat.le_of_ble_eq_true rfl⟩) (at_1 hk0) rfl rfl hl.1 rfl (Nat.le_of_ble_eq_true rfl) ⟨Nat.zero_le _, Nat.zero_le _⟩ dX1_isMatterBetween_2 (fun H locs hP hS => ?_)
  refine lv_if_eq (tgt := 35) hx hb dX1_isMatterBetween_5 (by decide) (fun c1 => ?_) (fun c1 => ?_)
  · have hF := ite_f (b2i_e0 c1) hF
    refine lv_iconst (v := 0) hx hb dX1_isMatterBetween_35 (by decide) ?_
    exact e_zT (b := false) hx hb hr hP hS hlocks dX1_isMatterBetween_36 rfl hF
  · have hF := ite_t (b2i_n0 c1) hF
    refine lv_aload_n hx hb dX1_isMatterBetween_8 rfl (lv_at hl 0 rfl) ?_
    refine lv_iload_n hx hb dX1_isMatterBetween_9 rfl (lv_at hl 2 rfl) ?_
    refine k_Vv (As := [.int x2]) (rest := []) Z hK hP hS (t_X1_isKnown l G hG i0 x2 hk0 σ) (cwV 1 hts gX1_isMatterBetween_X1_isKnown rfl rfl rfl (by decide +kernel) ⟨Nat.le_of_ble_eq_true rfl, Nat.le_of_ble_eq_true rfl⟩) (at_1 hk0) rfl rfl hl.1 rfl (Nat.le_of_ble_eq_true rfl) ⟨Nat.zero_le _, Nat.zero_le _⟩ dX1_isMatterBetween_10 (fun H locs hP hS => ?_)
    refine lv_if_eq (tgt := 35) hx hb dX1_isMatterBetween_13 (by decide) (fun c2 => ?_) (fun c2 => ?_)
    · have hF := ite_f (b2i_e0 c2) hF
      refine lv_iconst (v := 0) hx hb dX1_isMatterBetween_35 (by decide) ?_
      exact e_zT (b := false) hx hb hr hP hS hlocks dX1_isMatterBetween_36 rfl hF
    · have hF := ite_t (b2i_n0 c2) hF
      refine lv_aload_n hx hb dX1_isMatterBetween_16 rfl (lv_at hl 0 rfl) ?_
      refine lv_iload_n hx hb dX1_isMatterBetween_17 rfl (lv_at hl 1 rfl) ?_
      refine lv_iload_n hx hb dX1_isMatterBetween_18 rfl (lv_at hl 3 rfl) ?_
      refine k_Vv (As := [.int x1, .int x3]) (rest := []) Z hK hP hS (t_X1_isKept l G hG i0 x1 x3 hk0 σ) (cwV 2 hts gX1_isMatterBetween_X1_isKept rfl rfl rfl (by decide +kernel) ⟨Nat.le_of_ble_eq_true rfl, Nat.le_of_ble_eq_true rfl⟩) (at_1 hk0) rfl rfl hl.1 rfl (Nat.le_of_ble_eq_true rfl) ⟨Nat.zero_le _, Nat.zero_le _⟩ dX1_isMatterBetween_19 (fun H locs hP hS => ?_)
      refine lv_aload_n hx hb dX1_isMatterBetween_22 rfl (lv_at hl 0 rfl) ?_
      refine lv_iload_n hx hb dX1_isMatterBetween_23 rfl (lv_at hl 2 rfl) ?_
      refine lv_iload_n hx hb dX1_isMatterBetween_24 rfl (lv_at hl 3 rfl) ?_
      refine k_Vv (As := [.int x2, .int x3]) (rest := [.int (b2i (f_X1_isKept i0 x1 x3 σ))]) Z hK hP hS (t_X1_isKept l G hG i0 x2 x3 hk0 σ) (cwV 2 hts gX1_isMatterBetween_X1_isKept rfl rfl rfl (by decide +kernel) ⟨Nat.le_of_ble_eq_true rfl, Nat.le_of_ble_eq_true rfl⟩) (at_1 hk0) rfl rfl hl.1 rfl (Nat.le_of_ble_eq_true rfl) ⟨Nat.zero_le _, Nat.zero_le _⟩ dX1_isMatterBetween_25 (fun H locs hP hS => ?_)
      refine lv_icmp_eq (tgt := 35) hx hb dX1_isMatterBetween_28 (by decide) (fun c3 => ?_) (fun c3 => ?_)
      · have hF := ite_t c3 hF
        refine lv_iconst (v := 0) hx hb dX1_isMatterBetween_35 (by decide) ?_
        exact e_zT (b := false) hx hb hr hP hS hlocks dX1_isMatterBetween_36 rfl hF
      · have hF := ite_f c3 hF
        refine lv_iconst (v := 1) hx hb dX1_isMatterBetween_31 (by decide) ?_
        refine lv_goto (tgt := 36) hx hb dX1_isMatterBetween_32 (by decide) ?_
        exact e_zT (b := true) hx hb hr hP hS hlocks dX1_isMatterBetween_36 rfl hF
def f_X5_hasRow (i0 : Nat) (σ : St) : Bool := (if (σ i0 2) = (-1 : Int32) then false else true)
set_option maxRecDepth 100000 in
set_option maxHeartbeats 4000000 in
theorem t_X5_hasRow (l : Launch) (G : GT) (hG : Dw G) (i0 : Nat) (hk0 : kd i0 = 2) (σ : St) : Ct l G yX5_hasRow wsX5_hasRow 0 0 [.ref (gA G i0)] σ (some (.int (b2i (f_X5_hasRow i0 σ)))) σ := by
  obtain ⟨o, hF⟩ : ∃ o, f_X5_hasRow i0 σ = o := ⟨_, rfl⟩
  rw [hF]
  refine Met.ofW (cc := cX5_hasRow) (maxL := 1) (ret := (some .boolean)) (by decide) rfl ?_
  intro p e s m args below meth c s₁ B hml hv
  obtain ⟨rfl, hP, hK⟩ := hv
  have hx := B.exec
  have hb := B.bytes
  have hr := B.returns
  have hts := atoms_spec (ws := wsX5_hasRow) B.pre
  have hown : s.vm.findClass RX5 = some m.cls := findClass_of_methodNamed B.named
  have hlocks := B.notSynchronized
  have Z : CallFix p m c cX5_hasRow 1 s _ wsX5_hasRow RX5 := ⟨hx, hb, hml, hown, hts⟩
  have hS : va_S (AG G) s.heap s.heap [] := va_S.rf
  have inX5 : ∀ w ∈ u_ws RX5 TX5 5, w ∈ wsX5_hasRow := by decide +kernel
  have w1 := hts (.fieldLink RX5 17 "AlmanacOfTheYearGone$Shelf" "sort" "I") (by decide +kernel)
  have hl := lv_entry ([.ref (gA G i0)]) (n := 1) (Nat.le_of_ble_eq_true rfl)
  rw [lg_entry_eq]
  generalize (lg_sl ([.ref (gA G i0)]) ++ List.replicate (1 - (lg_sl ([.ref (gA G i0)])).length) Slot.unset).toArray = ls at hl ⊢
  have hl : lv_has ls 1 [(0, .ref (gA G i0))] := hl
  unfold f_X5_hasRow at hF
  refine lv_aload_n hx hb dX5_hasRow_0 rfl (lv_at hl 0 rfl) ?_
  refine va_get (ci := 2) (C := RX5) (T := TX5) (N := 5) (v := .int (σ i0 2)) hx hb hts inX5 hown hK.1 hP i0 (at_2 hk0) rfl 2 (by decide) w1 (fun _ h9 => h9) rfl dX5_hasRow_1 ?_
  refine lv_iconst (v := -1) hx hb dX5_hasRow_4 (by decide) ?_
  refine lv_icmp_eq (tgt := 12) hx hb dX5_hasRow_5 (by decide) (fun c1 => ?_) (fun c1 => ?_)
  · have hF := ite_t c1 hF
    refine lv_iconst (v := 0) hx hb dX5_hasRow_12 (by decide) ?_
    exact e_zT (b := false) hx hb hr hP hS hlocks dX5_hasRow_13 rfl hF
  · have hF := ite_f c1 hF
    refine lv_iconst (v := 1) hx hb dX5_hasRow_8 (by decide) ?_
    refine lv_goto (tgt := 13) hx hb dX5_hasRow_9 (by decide) ?_
    exact e_zT (b := true) hx hb hr hP hS hlocks dX5_hasRow_13 rfl hF
def f_X5_isEmpty (i0 : Nat) (σ : St) : Bool := (if (σ i0 2) = (-1 : Int32) then (if (σ i0 3) = (-1 : Int32) then true else false) else false)
set_option maxRecDepth 100000 in
set_option maxHeartbeats 4000000 in
theorem t_X5_isEmpty (l : Launch) (G : GT) (hG : Dw G) (i0 : Nat) (hk0 : kd i0 = 2) (σ : St) : Ct l G yX5_isEmpty wsX5_isEmpty 0 0 [.ref (gA G i0)] σ (some (.int (b2i (f_X5_isEmpty i0 σ)))) σ := by
  obtain ⟨o, hF⟩ : ∃ o, f_X5_isEmpty i0 σ = o := ⟨_, rfl⟩
  rw [hF]
  refine Met.ofW (cc := cX5_isEmpty) (maxL := 1) (ret := (some .boolean)) (by decide) rfl ?_
  intro p e s m args below meth c s₁ B hml hv
  obtain ⟨rfl, hP, hK⟩ := hv
  have hx := B.exec
  have hb := B.bytes
  have hr := B.returns
  have hts := atoms_spec (ws := wsX5_isEmpty) B.pre
  have hown : s.vm.findClass RX5 = some m.cls := findClass_of_methodNamed B.named
  have hlocks := B.notSynchronized
  have Z : CallFix p m c cX5_isEmpty 1 s _ wsX5_isEmpty RX5 := ⟨hx, hb, hml, hown, hts⟩
  have hS : va_S (AG G) s.heap s.heap [] := va_S.rf
  have inX5 : ∀ w ∈ u_ws RX5 TX5 5, w ∈ wsX5_isEmpty := by decide +kernel
  have w1 := hts (.fieldLink RX5 17 "AlmanacOfTheYearGone$Shelf" "sort" "I") (by decide +kernel)
  have w2 := hts (.fieldLink RX5 20 "AlmanacOfTheYearGone$Shelf" "kind" "I") (by decide +kernel)
  have hl := lv_entry ([.ref (gA G i0)]) (n := 1) (Nat.le_of_ble_eq_true rfl)
  rw [lg_entry_eq]
  generalize (lg_sl ([.ref (gA G i0)]) ++ List.replicate (1 - (lg_sl ([.ref (gA G i0)])).length) Slot.unset).toArray = ls at hl ⊢
  have hl : lv_has ls 1 [(0, .ref (gA G i0))] := hl
  unfold f_X5_isEmpty at hF
  refine lv_aload_n hx hb dX5_isEmpty_0 rfl (lv_at hl 0 rfl) ?_
  refine va_get (ci := 2) (C := RX5) (T := TX5) (N := 5) (v := .int (σ i0 2)) hx hb hts inX5 hown hK.1 hP i0 (at_2 hk0) rfl 2 (by decide) w1 (fun _ h9 => h9) rfl dX5_isEmpty_1 ?_
  refine lv_iconst (v := -1) hx hb dX5_isEmpty_4 (by decide) ?_
  refine lv_icmp_ne (tgt := 20) hx hb dX5_isEmpty_5 (by decide) (fun c1 => ?_) (fun c1 => ?_)
  · have hF := ite_f c1 hF
    refine lv_iconst (v := 0) hx hb dX5_isEmpty_20 (by decide) ?_
    exact e_zT (b := false) hx hb hr hP hS hlocks dX5_isEmpty_21 rfl hF
  · have hF := ite_t c1 hF
    refine lv_aload_n hx hb dX5_isEmpty_8 rfl (lv_at hl 0 rfl) ?_
    refine va_get (ci := 2) (C := RX5) (T := TX5) (N := 5) (v := .int (σ i0 3)) hx hb hts inX5 hown hK.1 hP i0 (at_2 hk0) rfl 3 (by decide) w2 (fun _ h9 => h9) rfl dX5_isEmpty_9 ?_
    refine lv_iconst (v := -1) hx hb dX5_isEmpty_12 (by decide) ?_
    refine lv_icmp_ne (tgt := 20) hx hb dX5_isEmpty_13 (by decide) (fun c2 => ?_) (fun c2 => ?_)
    · have hF := ite_f c2 hF
      refine lv_iconst (v := 0) hx hb dX5_isEmpty_20 (by decide) ?_
      exact e_zT (b := false) hx hb hr hP hS hlocks dX5_isEmpty_21 rfl hF
    · have hF := ite_t c2 hF
      refine lv_iconst (v := 1) hx hb dX5_isEmpty_16 (by decide) ?_
      refine lv_goto (tgt := 21) hx hb dX5_isEmpty_17 (by decide) ?_
      exact e_zT (b := true) hx hb hr hP hS hlocks dX5_isEmpty_21 rfl hF
def f_X5_empty (i0 : Nat) (σ : St) : Option St := (some (up (up (up (up σ i0 1 (0 : Int32)) i0 2 (-1 : Int32)) i0 3 (-1 : Int32)) i0 4 (0 : Int32)))
set_option maxRecDepth 100000 in
set_option maxHeartbeats 4000000 in
theorem t_X5_empty (l : Launch) (G : GT) (hG : Dw G) (i0 : Nat) (hk0 : kd i0 = 2) (σ : St) (o : St) (hF : f_X5_empty i0 σ = some o) : Ct l G yX5_empty wsX5_empty 0 0 [.ref (gA G i0)] σ none o := by
  refine Met.ofW (cc := cX5_empty) (maxL := 1) (ret := none) (by decide) rfl ?_
  intro p e s m args below meth c s₁ B hml hv
  obtain ⟨rfl, hP, hK⟩ := hv
  have hx := B.exec
  have hb := B.bytes
  have hr := B.returns
  have hts := atoms_spec (ws := wsX5_empty) B.pre
  have hown : s.vm.findClass RX5 = some m.cls := findClass_of_methodNamed B.named
  have hlocks := B.notSynchronized
  have Z : CallFix p m c cX5_empty 1 s _ wsX5_empty RX5 := ⟨hx, hb, hml, hown, hts⟩
  have hS : va_S (AG G) s.heap s.heap [] := va_S.rf
  have inX5 : ∀ w ∈ u_ws RX5 TX5 5, w ∈ wsX5_empty := by decide +kernel
  have w1 := hts (.fieldLink RX5 13 "AlmanacOfTheYearGone$Shelf" "length" "I") (by decide +kernel)
  have w2 := hts (.fieldLink RX5 17 "AlmanacOfTheYearGone$Shelf" "sort" "I") (by decide +kernel)
  have w3 := hts (.fieldLink RX5 20 "AlmanacOfTheYearGone$Shelf" "kind" "I") (by decide +kernel)
  have w4 := hts (.fieldLink RX5 23 "AlmanacOfTheYearGone$Shelf" "figure" "I") (by decide +kernel)
  have hl := lv_entry ([.ref (gA G i0)]) (n := 1) (Nat.le_of_ble_eq_true rfl)
  rw [lg_entry_eq]
  generalize (lg_sl ([.ref (gA G i0)]) ++ List.replicate (1 - (lg_sl ([.ref (gA G i0)])).length) Slot.unset).toArray = ls at hl ⊢
  have hl : lv_has ls 1 [(0, .ref (gA G i0))] := hl
  unfold f_X5_empty at hF
  refine lv_aload_n hx hb dX5_empty_0 rfl (lv_at hl 0 rfl) ?_
  refine lv_iconst (v := 0) hx hb dX5_empty_1 (by decide) ?_
  refine va_put (ci := 2) (C := RX5) (T := TX5) (N := 5) (v := .int (0 : Int32)) (ty := .int) hx hb hts inX5 tyX5 tyX5_ok nmX5 hown hK.1 hP (Dw.D hG) hS i0 (at_2 hk0) rfl 1 (by decide) w1 (fun _ h9 => h9) rfl (by decide +kernel) rfl rfl (Nat.le_of_ble_eq_true rfl) dX5_empty_2 (fun H locs hP _ hS => ?_)
  have hP := Pw.of hP (set_2_1 hk0)
  refine lv_aload_n hx hb dX5_empty_5 rfl (lv_at hl 0 rfl) ?_
  refine lv_iconst (v := -1) hx hb dX5_empty_6 (by decide) ?_
  refine va_put (ci := 2) (C := RX5) (T := TX5) (N := 5) (v := .int (-1 : Int32)) (ty := .int) hx hb hts inX5 tyX5 tyX5_ok nmX5 hown hK.1 hP (Dw.D hG) hS i0 (at_2 hk0) rfl 2 (by decide) w2 (fun _ h9 => h9) rfl (by decide +kernel) rfl rfl (Nat.le_of_ble_eq_true rfl) dX5_empty_7 (fun H locs hP _ hS => ?_)
  have hP := Pw.of hP (set_2_2 hk0)
  refine lv_aload_n hx hb dX5_empty_10 rfl (lv_at hl 0 rfl) ?_
  refine lv_iconst (v := -1) hx hb dX5_empty_11 (by decide) ?_
  refine va_put (ci := 2) (C := RX5) (T := TX5) (N := 5) (v := .int (-1 : Int32)) (ty := .int) hx hb hts inX5 tyX5 tyX5_ok nmX5 hown hK.1 hP (Dw.D hG) hS i0 (at_2 hk0) rfl 3 (by decide) w3 (fun _ h9 => h9) rfl (by decide +kernel) rfl rfl (Nat.le_of_ble_eq_true rfl) dX5_empty_12 (fun H locs hP _ hS => ?_)
  have hP := Pw.of hP (set_2_3 hk0)
  refine lv_aload_n hx hb dX5_empty_15 rfl (lv_at hl 0 rfl) ?_
  refine lv_iconst (v := 0) hx hb dX5_empty_16 (by decide) ?_
  refine va_put (ci := 2) (C := RX5) (T := TX5) (N := 5) (v := .int (0 : Int32)) (ty := .int) hx hb hts inX5 tyX5 tyX5_ok nmX5 hown hK.1 hP (Dw.D hG) hS i0 (at_2 hk0) rfl 4 (by decide) w4 (fun _ h9 => h9) rfl (by decide +kernel) rfl rfl (Nat.le_of_ble_eq_true rfl) dX5_empty_17 (fun H locs hP _ hS => ?_)
  have hP := Pw.of hP (set_2_4 hk0)
  exact e_vS hx hb hr hP hS hlocks dX5_empty_20 hF
def f_X5_hold (i0 : Nat) (x1 : Int32) (x2 : Int32) (σ : St) : Option St := (ob (f_X5_empty i0 σ) (fun q1 => some (up (up q1 i0 3 x1) i0 4 x2)))
set_option maxRecDepth 100000 in
set_option maxHeartbeats 4000000 in
theorem t_X5_hold (l : Launch) (G : GT) (hG : Dw G) (i0 : Nat) (x1 : Int32) (x2 : Int32) (hk0 : kd i0 = 2) (σ : St) (o : St) (hF : f_X5_hold i0 x1 x2 σ = some o) : Ct l G yX5_hold wsX5_hold 1 20 [.ref (gA G i0), .int x1, .int x2] σ none o := by
  refine Met.ofW (cc := cX5_hold) (maxL := 3) (ret := none) (by decide) rfl ?_
  intro p e s m args below meth c s₁ B hml hv
  obtain ⟨rfl, hP, hK⟩ := hv
  have hx := B.exec
  have hb := B.bytes
  have hr := B.returns
  have hts := atoms_spec (ws := wsX5_hold) B.pre
  have hown : s.vm.findClass RX5 = some m.cls := findClass_of_methodNamed B.named
  have hlocks := B.notSynchronized
  have Z : CallFix p m c cX5_hold 3 s _ wsX5_hold RX5 := ⟨hx, hb, hml, hown, hts⟩
  have hS : va_S (AG G) s.heap s.heap [] := va_S.rf
  have inX5 : ∀ w ∈ u_ws RX5 TX5 5, w ∈ wsX5_hold := by decide +kernel
  have w1 := hts (.fieldLink RX5 20 "AlmanacOfTheYearGone$Shelf" "kind" "I") (by decide +kernel)
  have w2 := hts (.fieldLink RX5 23 "AlmanacOfTheYearGone$Shelf" "figure" "I") (by decide +kernel)
  have hl := lv_entry ([.ref (gA G i0), .int x1, .int x2]) (n := 3) (Nat.le_of_ble_eq_true rfl)
  rw [lg_entry_eq]
  generalize (lg_sl ([.ref (gA G i0), .int x1, .int x2]) ++ List.replicate (3 - (lg_sl ([.ref (gA G i0), .int x1, .int x2])).length) Slot.unset).toArray = ls at hl ⊢
  have hl : lv_has ls 3 [(0, .ref (gA G i0)), (1, .int x1), (2, .int x2)] := hl
  unfold f_X5_hold at hF
  refine lv_aload_n hx hb dX5_hold_0 rfl (lv_at hl 0 rfl) ?_
  obtain ⟨q1, h2, hF⟩ := ob_some hF
  refine k_V0 (As := []) (rest := []) Z hK hP hS (t_X5_empty l G hG i0 hk0 σ _ h2) (cwV 0 hts gX5_hold_X5_empty rfl rfl rfl (by decide +kernel) ⟨Nat.le_of_ble_eq_true rfl, Nat.le_of_ble_eq_true rfl⟩) (at_2 hk0) rfl rfl hl.1 rfl (Nat.le_of_ble_eq_true rfl) ⟨Nat.zero_le _, Nat.zero_le _⟩ dX5_hold_1 (fun H locs hP hS => ?_)
  refine lv_aload_n hx hb dX5_hold_4 rfl (lv_at hl 0 rfl) ?_
  refine lv_iload_n hx hb dX5_hold_5 rfl (lv_at hl 1 rfl) ?_
  refine va_put (ci := 2) (C := RX5) (T := TX5) (N := 5) (v := .int x1) (ty := .int) hx hb hts inX5 tyX5 tyX5_ok nmX5 hown hK.1 hP (Dw.D hG) hS i0 (at_2 hk0) rfl 3 (by decide) w1 (fun _ h9 => h9) rfl (by decide +kernel) rfl rfl (Nat.le_of_ble_eq_true rfl) dX5_hold_6 (fun H locs hP _ hS => ?_)
  have hP := Pw.of hP (set_2_3 hk0)
  refine lv_aload_n hx hb dX5_hold_9 rfl (lv_at hl 0 rfl) ?_
  refine lv_iload_n hx hb dX5_hold_10 rfl (lv_at hl 2 rfl) ?_
  refine va_put (ci := 2) (C := RX5) (T := TX5) (N := 5) (v := .int x2) (ty := .int) hx hb hts inX5 tyX5 tyX5_ok nmX5 hown hK.1 hP (Dw.D hG) hS i0 (at_2 hk0) rfl 4 (by decide) w2 (fun _ h9 => h9) rfl (by decide +kernel) rfl rfl (Nat.le_of_ble_eq_true rfl) dX5_hold_11 (fun H locs hP _ hS => ?_)
  have hP := Pw.of hP (set_2_4 hk0)
  exact e_vS hx hb hr hP hS hlocks dX5_hold_14 hF
def f_X5_lay_16 (i0 : Nat) (x1 : Int32) (x2 : Int32) : Nat → (Int32 → St → Option St)
  | 0 => fun _ _ => none
  | fl + 1 => fun v3 τ => (if (100 : Int32) ≤ v3 then (some τ) else (if inb v3 100 then (f_X5_lay_16 i0 x1 x2 fl) (v3 + (1 : Int32)) (up τ (i0 + 1) v3.toNatClampNeg (0 : Int32)) else none))
theorem f_X5_lay_16_s {i0 : Nat} {x1 : Int32} {x2 : Int32} (fl : Nat) {v3 : Int32} {τ : St} : f_X5_lay_16 i0 x1 x2 (fl + 1) v3 τ = (if (100 : Int32) ≤ v3 then (some τ) else (if inb v3 100 then (f_X5_lay_16 i0 x1 x2 fl) (v3 + (1 : Int32)) (up τ (i0 + 1) v3.toNatClampNeg (0 : Int32)) else none)) := rfl
def f_X5_lay (i0 : Nat) (x1 : Int32) (x2 : Int32) (σ : St) : Option St := (ob (f_X5_empty i0 σ) (fun q1 => f_X5_lay_16 i0 x1 x2 fu (0 : Int32) (up (up q1 i0 2 x1) i0 1 x2)))
set_option maxRecDepth 100000 in
set_option maxHeartbeats 4000000 in
theorem t_X5_lay (l : Launch) (G : GT) (hG : Dw G) (i0 : Nat) (x1 : Int32) (x2 : Int32) (hk0 : kd i0 = 2) (σ : St) (o : St) (hF : f_X5_lay i0 x1 x2 σ = some o) : Ct l G yX5_lay wsX5_lay 1 20 [.ref (gA G i0), .int x1, .int x2] σ none o := by
  refine Met.ofW (cc := cX5_lay) (maxL := 4) (ret := none) (by decide) rfl ?_
  intro p e s m args below meth c s₁ B hml hv
  obtain ⟨rfl, hP, hK⟩ := hv
  have hx := B.exec
  have hb := B.bytes
  have hr := B.returns
  have hts := atoms_spec (ws := wsX5_lay) B.pre
  have hown : s.vm.findClass RX5 = some m.cls := findClass_of_methodNamed B.named
  have hlocks := B.notSynchronized
  have Z : CallFix p m c cX5_lay 4 s _ wsX5_lay RX5 := ⟨hx, hb, hml, hown, hts⟩
  have hS : va_S (AG G) s.heap s.heap [] := va_S.rf
  have inX5 : ∀ w ∈ u_ws RX5 TX5 5, w ∈ wsX5_lay := by decide +kernel
  have w1 := hts (.fieldLink RX5 17 "AlmanacOfTheYearGone$Shelf" "sort" "I") (by decide +kernel)
  have w2 := hts (.fieldLink RX5 13 "AlmanacOfTheYearGone$Shelf" "length" "I") (by decide +kernel)
  have w3 := hts (.fieldLink RX5 9 "AlmanacOfTheYearGone$Shelf" "cells" "[I") (by decide +kernel)
  have hl := lv_entry ([.ref (gA G i0), .int x1, .int x2]) (n := 4) (Nat.le_of_ble_eq_true rfl)
  rw [lg_entry_eq]
  generalize (lg_sl ([.ref (gA G i0), .int x1, .int x2]) ++ List.replicate (4 - (lg_sl ([.ref (gA G i0), .int x1, .int x2])).length) Slot.unset).toArray = ls at hl ⊢
  have hl : lv_has ls 4 [(0, .ref (gA G i0)), (1, .int x1), (2, .int x2)] := hl
  unfold f_X5_lay at hF
  refine lv_aload_n hx hb dX5_lay_0 rfl (lv_at hl 0 rfl) ?_
  obtain ⟨q1, h2, hF⟩ := ob_some hF
  refine k_V0 (As := []) (rest := []) Z hK hP hS (t_X5_empty l G hG i0 hk0 σ _ h2) (cwV 0 hts gX5_lay_X5_empty rfl rfl rfl (by decide +kernel) ⟨Nat.le_of_ble_eq_true rfl, Nat.le_of_ble_eq_true rfl⟩) (at_2 hk0) rfl rfl hl.1 rfl (Nat.le_of_ble_eq_true rfl) ⟨Nat.zero_le _, Nat.zero_le _⟩ dX5_lay_1 (fun H locs hP hS => ?_)
  refine lv_aload_n hx hb dX5_lay_4 rfl (lv_at hl 0 rfl) ?_
  refine lv_iload_n hx hb dX5_lay_5 rfl (lv_at hl 1 rfl) ?_
  refine va_put (ci := 2) (C := RX5) (T := TX5) (N := 5) (v := .int x1) (ty := .int) hx hb hts inX5 tyX5 tyX5_ok nmX5 hown hK.1 hP (Dw.D hG) hS i0 (at_2 hk0) rfl 2 (by decide) w1 (fun _ h9 => h9) rfl (by decide +kernel) rfl rfl (Nat.le_of_ble_eq_true rfl) dX5_lay_6 (fun H locs hP _ hS => ?_)
  have hP := Pw.of hP (set_2_2 hk0)
  refine lv_aload_n hx hb dX5_lay_9 rfl (lv_at hl 0 rfl) ?_
  refine lv_iload_n hx hb dX5_lay_10 rfl (lv_at hl 2 rfl) ?_
  refine va_put (ci := 2) (C := RX5) (T := TX5) (N := 5) (v := .int x2) (ty := .int) hx hb hts inX5 tyX5 tyX5_ok nmX5 hown hK.1 hP (Dw.D hG) hS i0 (at_2 hk0) rfl 1 (by decide) w2 (fun _ h9 => h9) rfl (by decide +kernel) rfl rfl (Nat.le_of_ble_eq_true rfl) dX5_lay_11 (fun H locs hP _ hS => ?_)
  have hP := Pw.of hP (set_2_1 hk0)
  refine lv_iconst (v := 0) hx hb dX5_lay_14 (by decide) ?_
  have J16 : ∀ (fl : Nat) (v3 : Int32) (τ : St) (H : Heap) (locs : List Loc) (hP : Pw G τ H) (hS : va_S (AG G) s.heap H locs) (ls : Array Slot) (hl : lv_has ls 4 [(0, .ref (gA G i0)), (1, .int x1), (2, .int x2), (3, .int v3)]) (hF : f_X5_lay_16 i0 x1 x2 fl v3 τ = some o), W p l e (headSpec wsX5_lay ({ frames := 1, cells := 0, slots := 0, locals := 20 })).room s m ([.ref (gA G i0), .int x1, .int x2] : List Value).toArray below meth c H locs 0 0 (MQ below (qR G none o) ([.ref (gA G i0), .int x1, .int x2] : List Value).toArray s 0 0 (AG G)) (F0 m 16 ls []) := by
    intro fl16
    induction fl16 with
    | zero => intro v3 τ H locs hP hS ls hl hF; cases hF
    | succ fl16 ih16 =>
      intro v3 τ H locs hP hS ls hl hF
      rw [f_X5_lay_16_s] at hF
      refine lv_iload_n hx hb dX5_lay_16 rfl (lv_at hl 3 rfl) ?_
      refine lv_aload_n hx hb dX5_lay_17 rfl (lv_at hl 0 rfl) ?_
      refine va_get (ci := 2) (C := RX5) (T := TX5) (N := 5) (v := .ref (gA G (i0 + 1))) hx hb hts inX5 hown hK.1 hP i0 (at_2 hk0) rfl 0 (by decide) w3 (fun _ h9 => h9) rfl dX5_lay_18 ?_
      refine va_alen (v := 100) hx hb hK.1 hP (i0 + 1) 0 (at_6 ((kd_s0 hk0).1) ((kd_s0 hk0).2)) rfl rfl dX5_lay_21 ?_
      refine lv_icmp_ge (tgt := 38) hx hb dX5_lay_22 (by decide) (fun c3 => ?_) (fun c3 => ?_)
      · have hF := ite_t c3 hF
        exact e_vS hx hb hr hP hS hlocks dX5_lay_38 hF
      · have hF := ite_f c3 hF
        refine lv_aload_n hx hb dX5_lay_25 rfl (lv_at hl 0 rfl) ?_
        refine va_get (ci := 2) (C := RX5) (T := TX5) (N := 5) (v := .ref (gA G (i0 + 1))) hx hb hts inX5 hown hK.1 hP i0 (at_2 hk0) rfl 0 (by decide) w3 (fun _ h9 => h9) rfl dX5_lay_26 ?_
        refine lv_iload_n hx hb dX5_lay_29 rfl (lv_at hl 3 rfl) ?_
        refine lv_iconst (v := 0) hx hb dX5_lay_30 (by decide) ?_
        obtain ⟨b4, hF⟩ := ite_some hF
        refine va_iast hx hb hK.1 hP (Dw.D hG) hS (i0 + 1) 0 (at_6 ((kd_s0 hk0).1) ((kd_s0 hk0).2)) rfl (inb_in b4) dX5_lay_31 (fun H locs hP _ hS => ?_)
        have hP : Pw G (up τ (i0 + 1) v3.toNatClampNeg (0 : Int32)) H := Pw.of hP (set_6 ((kd_s0 hk0).1) ((kd_s0 hk0).2))
        refine lv_iinc (v := (v3 + (1 : Int32))) (lv' := [(3, .int (v3 + (1 : Int32))), (0, .ref (gA G i0)), (1, .int x1), (2, .int x2)]) hx hb dX5_lay_32 hl (k := 3) rfl rfl (by decide) rfl (fun ls hl => ?_)
        refine lv_goto (tgt := 16) hx hb dX5_lay_35 (by decide) ?_
        exact ih16 (v3 + (1 : Int32)) (up τ (i0 + 1) v3.toNatClampNeg (0 : Int32)) _ _ hP hS ls (lv_sub hl [1, 2, 3, 0] rfl) hF
  refine lv_istore_n (lv' := [(3, .int (0 : Int32)), (0, .ref (gA G i0)), (1, .int x1), (2, .int x2)]) hx hb dX5_lay_15 rfl hl (by decide) rfl (fun ls hl => ?_)
  exact J16 fu (0 : Int32) (up (up q1 i0 2 x1) i0 1 x2) _ _ hP hS ls (lv_sub hl [1, 2, 3, 0] rfl) hF
def f_X5_cell (i0 : Nat) (x1 : Int32) (σ : St) : Option Int32 := (if x1 < 0 then (some (0 : Int32)) else (if (σ i0 1) ≤ x1 then (some (0 : Int32)) else (if (100 : Int32) ≤ x1 then (some (0 : Int32)) else (if inb x1 100 then some (σ (i0 + 1) x1.toNatClampNeg) else none))))
set_option maxRecDepth 100000 in
set_option maxHeartbeats 4000000 in
theorem t_X5_cell (l : Launch) (G : GT) (hG : Dw G) (i0 : Nat) (x1 : Int32) (hk0 : kd i0 = 2) (σ : St) (o : Int32) (hF : f_X5_cell i0 x1 σ = some o) : Ct l G yX5_cell wsX5_cell 0 0 [.ref (gA G i0), .int x1] σ (some (.int o)) σ := by
  refine Met.ofW (cc := cX5_cell) (maxL := 2) (ret := (some .int)) (by decide) rfl ?_
  intro p e s m args below meth c s₁ B hml hv
  obtain ⟨rfl, hP, hK⟩ := hv
  have hx := B.exec
  have hb := B.bytes
  have hr := B.returns
  have hts := atoms_spec (ws := wsX5_cell) B.pre
  have hown : s.vm.findClass RX5 = some m.cls := findClass_of_methodNamed B.named
  have hlocks := B.notSynchronized
  have Z : CallFix p m c cX5_cell 2 s _ wsX5_cell RX5 := ⟨hx, hb, hml, hown, hts⟩
  have hS : va_S (AG G) s.heap s.heap [] := va_S.rf
  have inX5 : ∀ w ∈ u_ws RX5 TX5 5, w ∈ wsX5_cell := by decide +kernel
  have w1 := hts (.fieldLink RX5 13 "AlmanacOfTheYearGone$Shelf" "length" "I") (by decide +kernel)
  have w2 := hts (.fieldLink RX5 9 "AlmanacOfTheYearGone$Shelf" "cells" "[I") (by decide +kernel)
  have hl := lv_entry ([.ref (gA G i0), .int x1]) (n := 2) (Nat.le_of_ble_eq_true rfl)
  rw [lg_entry_eq]
  generalize (lg_sl ([.ref (gA G i0), .int x1]) ++ List.replicate (2 - (lg_sl ([.ref (gA G i0), .int x1])).length) Slot.unset).toArray = ls at hl ⊢
  have hl : lv_has ls 2 [(0, .ref (gA G i0)), (1, .int x1)] := hl
  unfold f_X5_cell at hF
  refine lv_iload_n hx hb dX5_cell_0 rfl (lv_at hl 1 rfl) ?_
  refine lv_if_lt (tgt := 30) hx hb dX5_cell_1 (by decide) (fun c1 => ?_) (fun c1 => ?_)
  · have hF := ite_t c1 hF
    refine lv_iconst (v := 0) hx hb dX5_cell_30 (by decide) ?_
    exact e_iP hx hb hr hP hS hlocks dX5_cell_31 hF
  · have hF := ite_f c1 hF
    refine lv_iload_n hx hb dX5_cell_4 rfl (lv_at hl 1 rfl) ?_
    refine lv_aload_n hx hb dX5_cell_5 rfl (lv_at hl 0 rfl) ?_
    refine va_get (ci := 2) (C := RX5) (T := TX5) (N := 5) (v := .int (σ i0 1)) hx hb hts inX5 hown hK.1 hP i0 (at_2 hk0) rfl 1 (by decide) w1 (fun _ h9 => h9) rfl dX5_cell_6 ?_
    refine lv_icmp_ge (tgt := 30) hx hb dX5_cell_9 (by decide) (fun c2 => ?_) (fun c2 => ?_)
    · have hF := ite_t c2 hF
      refine lv_iconst (v := 0) hx hb dX5_cell_30 (by decide) ?_
      exact e_iP hx hb hr hP hS hlocks dX5_cell_31 hF
    · have hF := ite_f c2 hF
      refine lv_iload_n hx hb dX5_cell_12 rfl (lv_at hl 1 rfl) ?_
      refine lv_aload_n hx hb dX5_cell_13 rfl (lv_at hl 0 rfl) ?_
      refine va_get (ci := 2) (C := RX5) (T := TX5) (N := 5) (v := .ref (gA G (i0 + 1))) hx hb hts inX5 hown hK.1 hP i0 (at_2 hk0) rfl 0 (by decide) w2 (fun _ h9 => h9) rfl dX5_cell_14 ?_
      refine va_alen (v := 100) hx hb hK.1 hP (i0 + 1) 0 (at_6 ((kd_s0 hk0).1) ((kd_s0 hk0).2)) rfl rfl dX5_cell_17 ?_
      refine lv_icmp_ge (tgt := 30) hx hb dX5_cell_18 (by decide) (fun c3 => ?_) (fun c3 => ?_)
      · have hF := ite_t c3 hF
        refine lv_iconst (v := 0) hx hb dX5_cell_30 (by decide) ?_
        exact e_iP hx hb hr hP hS hlocks dX5_cell_31 hF
      · have hF := ite_f c3 hF
        refine lv_aload_n hx hb dX5_cell_21 rfl (lv_at hl 0 rfl) ?_
        refine va_get (ci := 2) (C := RX5) (T := TX5) (N := 5) (v := .ref (gA G (i0 + 1))) hx hb hts inX5 hown hK.1 hP i0 (at_2 hk0) rfl 0 (by decide) w2 (fun _ h9 => h9) rfl dX5_cell_22 ?_
        refine lv_iload_n hx hb dX5_cell_25 rfl (lv_at hl 1 rfl) ?_
        obtain ⟨b4, hF⟩ := ite_some hF
        refine va_iald hx hb hK.1 hP (i0 + 1) 0 (at_6 ((kd_s0 hk0).1) ((kd_s0 hk0).2)) rfl (inb_in b4) dX5_cell_26 ?_
        refine lv_goto (tgt := 31) hx hb dX5_cell_27 (by decide) ?_
        exact e_iP hx hb hr hP hS hlocks dX5_cell_31 hF
def f_X5_set (i0 : Nat) (x1 : Int32) (x2 : Int32) (σ : St) : Option St := (if x1 < 0 then (some σ) else (if (σ i0 1) ≤ x1 then (some σ) else (if x1 < (100 : Int32) then (if (σ i0 2) = 0 then (if inb x1 100 then some (up σ (i0 + 1) x1.toNatClampNeg x2.toInt8.toInt32) else none) else (if (σ i0 2) = (1 : Int32) then (if inb x1 100 then some (up σ (i0 + 1) x1.toNatClampNeg x2.toInt16.toInt32) else none) else (if inb x1 100 then some (up σ (i0 + 1) x1.toNatClampNeg x2) else none))) else (some σ))))
set_option maxRecDepth 100000 in
set_option maxHeartbeats 4000000 in
theorem t_X5_set (l : Launch) (G : GT) (hG : Dw G) (i0 : Nat) (x1 : Int32) (x2 : Int32) (hk0 : kd i0 = 2) (σ : St) (o : St) (hF : f_X5_set i0 x1 x2 σ = some o) : Ct l G yX5_set wsX5_set 0 0 [.ref (gA G i0), .int x1, .int x2] σ none o := by
  refine Met.ofW (cc := cX5_set) (maxL := 3) (ret := none) (by decide) rfl ?_
  intro p e s m args below meth c s₁ B hml hv
  obtain ⟨rfl, hP, hK⟩ := hv
  have hx := B.exec
  have hb := B.bytes
  have hr := B.returns
  have hts := atoms_spec (ws := wsX5_set) B.pre
  have hown : s.vm.findClass RX5 = some m.cls := findClass_of_methodNamed B.named
  have hlocks := B.notSynchronized
  have Z : CallFix p m c cX5_set 3 s _ wsX5_set RX5 := ⟨hx, hb, hml, hown, hts⟩
  have hS : va_S (AG G) s.heap s.heap [] := va_S.rf
  have inX5 : ∀ w ∈ u_ws RX5 TX5 5, w ∈ wsX5_set := by decide +kernel
  have w1 := hts (.fieldLink RX5 13 "AlmanacOfTheYearGone$Shelf" "length" "I") (by decide +kernel)
  have w2 := hts (.fieldLink RX5 9 "AlmanacOfTheYearGone$Shelf" "cells" "[I") (by decide +kernel)
  have w3 := hts (.fieldLink RX5 17 "AlmanacOfTheYearGone$Shelf" "sort" "I") (by decide +kernel)
  have hl := lv_entry ([.ref (gA G i0), .int x1, .int x2]) (n := 3) (Nat.le_of_ble_eq_true rfl)
  rw [lg_entry_eq]
  generalize (lg_sl ([.ref (gA G i0), .int x1, .int x2]) ++ List.replicate (3 - (lg_sl ([.ref (gA G i0), .int x1, .int x2])).length) Slot.unset).toArray = ls at hl ⊢
  have hl : lv_has ls 3 [(0, .ref (gA G i0)), (1, .int x1), (2, .int x2)] := hl
  unfold f_X5_set at hF
  refine lv_iload_n hx hb dX5_set_0 rfl (lv_at hl 1 rfl) ?_
  refine lv_if_lt (tgt := 21) hx hb dX5_set_1 (by decide) (fun c1 => ?_) (fun c1 => ?_)
  · have hF := ite_t c1 hF
    exact e_vS hx hb hr hP hS hlocks dX5_set_21 hF
  · have hF := ite_f c1 hF
    refine lv_iload_n hx hb dX5_set_4 rfl (lv_at hl 1 rfl) ?_
    refine lv_aload_n hx hb dX5_set_5 rfl (lv_at hl 0 rfl) ?_
    refine va_get (ci := 2) (C := RX5) (T := TX5) (N := 5) (v := .int (σ i0 1)) hx hb hts inX5 hown hK.1 hP i0 (at_2 hk0) rfl 1 (by decide) w1 (fun _ h9 => h9) rfl dX5_set_6 ?_
    refine lv_icmp_ge (tgt := 21) hx hb dX5_set_9 (by decide) (fun c2 => ?_) (fun c2 => ?_)
    · have hF := ite_t c2 hF
      exact e_vS hx hb hr hP hS hlocks dX5_set_21 hF
    · have hF := ite_f c2 hF
      refine lv_iload_n hx hb dX5_set_12 rfl (lv_at hl 1 rfl) ?_
      refine lv_aload_n hx hb dX5_set_13 rfl (lv_at hl 0 rfl) ?_
      refine va_get (ci := 2) (C := RX5) (T := TX5) (N := 5) (v := .ref (gA G (i0 + 1))) hx hb hts inX5 hown hK.1 hP i0 (at_2 hk0) rfl 0 (by decide) w2 (fun _ h9 => h9) rfl dX5_set_14 ?_
      refine va_alen (v := 100) hx hb hK.1 hP (i0 + 1) 0 (at_6 ((kd_s0 hk0).1) ((kd_s0 hk0).2)) rfl rfl dX5_set_17 ?_
      refine lv_icmp_lt (tgt := 22) hx hb dX5_set_18 (by decide) (fun c3 => ?_) (fun c3 => ?_)
      · have hF := ite_t c3 hF
        refine lv_aload_n hx hb dX5_set_22 rfl (lv_at hl 0 rfl) ?_
        refine va_get (ci := 2) (C := RX5) (T := TX5) (N := 5) (v := .int (σ i0 2)) hx hb hts inX5 hown hK.1 hP i0 (at_2 hk0) rfl 2 (by decide) w3 (fun _ h9 => h9) rfl dX5_set_23 ?_
        refine lv_if_ne (tgt := 40) hx hb dX5_set_26 (by decide) (fun c4 => ?_) (fun c4 => ?_)
        · have hF := ite_f c4 hF
          refine lv_aload_n hx hb dX5_set_40 rfl (lv_at hl 0 rfl) ?_
          refine va_get (ci := 2) (C := RX5) (T := TX5) (N := 5) (v := .int (σ i0 2)) hx hb hts inX5 hown hK.1 hP i0 (at_2 hk0) rfl 2 (by decide) w3 (fun _ h9 => h9) rfl dX5_set_41 ?_
          refine lv_iconst (v := 1) hx hb dX5_set_44 (by decide) ?_
          refine lv_icmp_ne (tgt := 59) hx hb dX5_set_45 (by decide) (fun c5 => ?_) (fun c5 => ?_)
          · have hF := ite_f c5 hF
            refine lv_aload_n hx hb dX5_set_59 rfl (lv_at hl 0 rfl) ?_
            refine va_get (ci := 2) (C := RX5) (T := TX5) (N := 5) (v := .ref (gA G (i0 + 1))) hx hb hts inX5 hown hK.1 hP i0 (at_2 hk0) rfl 0 (by decide) w2 (fun _ h9 => h9) rfl dX5_set_60 ?_
            refine lv_iload_n hx hb dX5_set_63 rfl (lv_at hl 1 rfl) ?_
            refine lv_iload_n hx hb dX5_set_64 rfl (lv_at hl 2 rfl) ?_
            obtain ⟨b6, hF⟩ := ite_some hF
            refine va_iast hx hb hK.1 hP (Dw.D hG) hS (i0 + 1) 0 (at_6 ((kd_s0 hk0).1) ((kd_s0 hk0).2)) rfl (inb_in b6) dX5_set_65 (fun H locs hP _ hS => ?_)
            have hP : Pw G (up σ (i0 + 1) x1.toNatClampNeg x2) H := Pw.of hP (set_6 ((kd_s0 hk0).1) ((kd_s0 hk0).2))
            exact e_vS hx hb hr hP hS hlocks dX5_set_66 hF
          · have hF := ite_t c5 hF
            refine lv_aload_n hx hb dX5_set_48 rfl (lv_at hl 0 rfl) ?_
            refine va_get (ci := 2) (C := RX5) (T := TX5) (N := 5) (v := .ref (gA G (i0 + 1))) hx hb hts inX5 hown hK.1 hP i0 (at_2 hk0) rfl 0 (by decide) w2 (fun _ h9 => h9) rfl dX5_set_49 ?_
            refine lv_iload_n hx hb dX5_set_52 rfl (lv_at hl 1 rfl) ?_
            refine lv_iload_n hx hb dX5_set_53 rfl (lv_at hl 2 rfl) ?_
            refine lv_i2s hx hb dX5_set_54 rfl ?_
            obtain ⟨b7, hF⟩ := ite_some hF
            refine va_iast hx hb hK.1 hP (Dw.D hG) hS (i0 + 1) 0 (at_6 ((kd_s0 hk0).1) ((kd_s0 hk0).2)) rfl (inb_in b7) dX5_set_55 (fun H locs hP _ hS => ?_)
            have hP : Pw G (up σ (i0 + 1) x1.toNatClampNeg x2.toInt16.toInt32) H := Pw.of hP (set_6 ((kd_s0 hk0).1) ((kd_s0 hk0).2))
            refine lv_goto (tgt := 66) hx hb dX5_set_56 (by decide) ?_
            exact e_vS hx hb hr hP hS hlocks dX5_set_66 hF
        · have hF := ite_t c4 hF
          refine lv_aload_n hx hb dX5_set_29 rfl (lv_at hl 0 rfl) ?_
          refine va_get (ci := 2) (C := RX5) (T := TX5) (N := 5) (v := .ref (gA G (i0 + 1))) hx hb hts inX5 hown hK.1 hP i0 (at_2 hk0) rfl 0 (by decide) w2 (fun _ h9 => h9) rfl dX5_set_30 ?_
          refine lv_iload_n hx hb dX5_set_33 rfl (lv_at hl 1 rfl) ?_
          refine lv_iload_n hx hb dX5_set_34 rfl (lv_at hl 2 rfl) ?_
          refine lv_i2b hx hb dX5_set_35 rfl ?_
          obtain ⟨b8, hF⟩ := ite_some hF
          refine va_iast hx hb hK.1 hP (Dw.D hG) hS (i0 + 1) 0 (at_6 ((kd_s0 hk0).1) ((kd_s0 hk0).2)) rfl (inb_in b8) dX5_set_36 (fun H locs hP _ hS => ?_)
          have hP : Pw G (up σ (i0 + 1) x1.toNatClampNeg x2.toInt8.toInt32) H := Pw.of hP (set_6 ((kd_s0 hk0).1) ((kd_s0 hk0).2))
          refine lv_goto (tgt := 66) hx hb dX5_set_37 (by decide) ?_
          exact e_vS hx hb hr hP hS hlocks dX5_set_66 hF
      · have hF := ite_f c3 hF
        exact e_vS hx hb hr hP hS hlocks dX5_set_21 hF
def f_X5_hasStretch (i0 : Nat) (x1 : Int32) (x2 : Int32) (σ : St) : Bool := (if x1 < 0 then false else (if x2 < 0 then false else (if (σ i0 1) < x1 then false else (if ((σ i0 1) - x1) < x2 then false else true))))
set_option maxRecDepth 100000 in
set_option maxHeartbeats 4000000 in
theorem t_X5_hasStretch (l : Launch) (G : GT) (hG : Dw G) (i0 : Nat) (x1 : Int32) (x2 : Int32) (hk0 : kd i0 = 2) (σ : St) : Ct l G yX5_hasStretch wsX5_hasStretch 0 0 [.ref (gA G i0), .int x1, .int x2] σ (some (.int (b2i (f_X5_hasStretch i0 x1 x2 σ)))) σ := by
  obtain ⟨o, hF⟩ : ∃ o, f_X5_hasStretch i0 x1 x2 σ = o := ⟨_, rfl⟩
  rw [hF]
  refine Met.ofW (cc := cX5_hasStretch) (maxL := 3) (ret := (some .boolean)) (by decide) rfl ?_
  intro p e s m args below meth c s₁ B hml hv
  obtain ⟨rfl, hP, hK⟩ := hv
  have hx := B.exec
  have hb := B.bytes
  have hr := B.returns
  have hts := atoms_spec (ws := wsX5_hasStretch) B.pre
  have hown : s.vm.findClass RX5 = some m.cls := findClass_of_methodNamed B.named
  have hlocks := B.notSynchronized
  have Z : CallFix p m c cX5_hasStretch 3 s _ wsX5_hasStretch RX5 := ⟨hx, hb, hml, hown, hts⟩
  have hS : va_S (AG G) s.heap s.heap [] := va_S.rf
  have inX5 : ∀ w ∈ u_ws RX5 TX5 5, w ∈ wsX5_hasStretch := by decide +kernel
  have w1 := hts (.fieldLink RX5 13 "AlmanacOfTheYearGone$Shelf" "length" "I") (by decide +kernel)
  have hl := lv_entry ([.ref (gA G i0), .int x1, .int x2]) (n := 3) (Nat.le_of_ble_eq_true rfl)
  rw [lg_entry_eq]
  generalize (lg_sl ([.ref (gA G i0), .int x1, .int x2]) ++ List.replicate (3 - (lg_sl ([.ref (gA G i0), .int x1, .int x2])).length) Slot.unset).toArray = ls at hl ⊢
  have hl : lv_has ls 3 [(0, .ref (gA G i0)), (1, .int x1), (2, .int x2)] := hl
  unfold f_X5_hasStretch at hF
  refine lv_iload_n hx hb dX5_hasStretch_0 rfl (lv_at hl 1 rfl) ?_
  refine lv_if_lt (tgt := 30) hx hb dX5_hasStretch_1 (by decide) (fun c1 => ?_) (fun c1 => ?_)
  · have hF := ite_t c1 hF
    refine lv_iconst (v := 0) hx hb dX5_hasStretch_30 (by decide) ?_
    exact e_zT (b := false) hx hb hr hP hS hlocks dX5_hasStretch_31 rfl hF
  · have hF := ite_f c1 hF
    refine lv_iload_n hx hb dX5_hasStretch_4 rfl (lv_at hl 2 rfl) ?_
    refine lv_if_lt (tgt := 30) hx hb dX5_hasStretch_5 (by decide) (fun c2 => ?_) (fun c2 => ?_)
    · have hF := ite_t c2 hF
      refine lv_iconst (v := 0) hx hb dX5_hasStretch_30 (by decide) ?_
      exact e_zT (b := false) hx hb hr hP hS hlocks dX5_hasStretch_31 rfl hF
    · have hF := ite_f c2 hF
      refine lv_iload_n hx hb dX5_hasStretch_8 rfl (lv_at hl 1 rfl) ?_
      refine lv_aload_n hx hb dX5_hasStretch_9 rfl (lv_at hl 0 rfl) ?_
      refine va_get (ci := 2) (C := RX5) (T := TX5) (N := 5) (v := .int (σ i0 1)) hx hb hts inX5 hown hK.1 hP i0 (at_2 hk0) rfl 1 (by decide) w1 (fun _ h9 => h9) rfl dX5_hasStretch_10 ?_
      refine lv_icmp_gt (tgt := 30) hx hb dX5_hasStretch_13 (by decide) (fun c3 => ?_) (fun c3 => ?_)
      · have hF := ite_t c3 hF
        refine lv_iconst (v := 0) hx hb dX5_hasStretch_30 (by decide) ?_
        exact e_zT (b := false) hx hb hr hP hS hlocks dX5_hasStretch_31 rfl hF
      · have hF := ite_f c3 hF
        refine lv_iload_n hx hb dX5_hasStretch_16 rfl (lv_at hl 2 rfl) ?_
        refine lv_aload_n hx hb dX5_hasStretch_17 rfl (lv_at hl 0 rfl) ?_
        refine va_get (ci := 2) (C := RX5) (T := TX5) (N := 5) (v := .int (σ i0 1)) hx hb hts inX5 hown hK.1 hP i0 (at_2 hk0) rfl 1 (by decide) w1 (fun _ h9 => h9) rfl dX5_hasStretch_18 ?_
        refine lv_iload_n hx hb dX5_hasStretch_21 rfl (lv_at hl 1 rfl) ?_
        refine lv_isub hx hb dX5_hasStretch_22 ?_
        refine lv_icmp_gt (tgt := 30) hx hb dX5_hasStretch_23 (by decide) (fun c4 => ?_) (fun c4 => ?_)
        · have hF := ite_t c4 hF
          refine lv_iconst (v := 0) hx hb dX5_hasStretch_30 (by decide) ?_
          exact e_zT (b := false) hx hb hr hP hS hlocks dX5_hasStretch_31 rfl hF
        · have hF := ite_f c4 hF
          refine lv_iconst (v := 1) hx hb dX5_hasStretch_26 (by decide) ?_
          refine lv_goto (tgt := 31) hx hb dX5_hasStretch_27 (by decide) ?_
          exact e_zT (b := true) hx hb hr hP hS hlocks dX5_hasStretch_31 rfl hF
def f_X5_isSkipped_44 (i0 : Nat) (x1 : Int32) (σ : St) (z0 : Int32) (z1 : Int32) : Option Bool := (if z0 = z1 then (some true) else (some false))
theorem f_X5_isSkipped_44_e {i0 : Nat} {x1 : Int32} {σ : St} {z0 : Int32} {z1 : Int32} : f_X5_isSkipped_44 i0 x1 σ z0 z1 = (if z0 = z1 then (some true) else (some false)) := rfl
def f_X5_isSkipped (i0 : Nat) (x1 : Int32) (σ : St) : Option Bool := (if (σ i0 2) = 0 then (ob (f_X5_cell i0 x1 σ) (fun q6 => if q6 = (-128 : Int32) then (some true) else (some false))) else (ob (f_X5_cell i0 x1 σ) (fun q2 => if (σ i0 2) = (1 : Int32) then (f_X5_isSkipped_44 i0 x1 σ q2 (-32768 : Int32)) else (f_X5_isSkipped_44 i0 x1 σ q2 (-2147483648 : Int32)))))
set_option maxRecDepth 100000 in
set_option maxHeartbeats 4000000 in
theorem t_X5_isSkipped (l : Launch) (G : GT) (hG : Dw G) (i0 : Nat) (x1 : Int32) (hk0 : kd i0 = 2) (σ : St) (o : Bool) (hF : f_X5_isSkipped i0 x1 σ = some o) : Ct l G yX5_isSkipped wsX5_isSkipped 1 21 [.ref (gA G i0), .int x1] σ (some (.int (b2i o))) σ := by
  refine Met.ofW (cc := cX5_isSkipped) (maxL := 2) (ret := (some .boolean)) (by decide) rfl ?_
  intro p e s m args below meth c s₁ B hml hv
  obtain ⟨rfl, hP, hK⟩ := hv
  have hx := B.exec
  have hb := B.bytes
  have hr := B.returns
  have hts := atoms_spec (ws := wsX5_isSkipped) B.pre
  have hown : s.vm.findClass RX5 = some m.cls := findClass_of_methodNamed B.named
  have hlocks := B.notSynchronized
  have Z : CallFix p m c cX5_isSkipped 2 s _ wsX5_isSkipped RX5 := ⟨hx, hb, hml, hown, hts⟩
  have hS : va_S (AG G) s.heap s.heap [] := va_S.rf
  have inX5 : ∀ w ∈ u_ws RX5 TX5 5, w ∈ wsX5_isSkipped := by decide +kernel
  have w1 := hts (.fieldLink RX5 17 "AlmanacOfTheYearGone$Shelf" "sort" "I") (by decide +kernel)
  have w2 := hts (.constant RX5 33 (-2147483648)) (by decide +kernel)
  have hl := lv_entry ([.ref (gA G i0), .int x1]) (n := 2) (Nat.le_of_ble_eq_true rfl)
  rw [lg_entry_eq]
  generalize (lg_sl ([.ref (gA G i0), .int x1]) ++ List.replicate (2 - (lg_sl ([.ref (gA G i0), .int x1])).length) Slot.unset).toArray = ls at hl ⊢
  have hl : lv_has ls 2 [(0, .ref (gA G i0)), (1, .int x1)] := hl
  unfold f_X5_isSkipped at hF
  refine lv_aload_n hx hb dX5_isSkipped_0 rfl (lv_at hl 0 rfl) ?_
  refine va_get (ci := 2) (C := RX5) (T := TX5) (N := 5) (v := .int (σ i0 2)) hx hb hts inX5 hown hK.1 hP i0 (at_2 hk0) rfl 2 (by decide) w1 (fun _ h9 => h9) rfl dX5_isSkipped_1 ?_
  refine lv_if_ne (tgt := 23) hx hb dX5_isSkipped_4 (by decide) (fun c1 => ?_) (fun c1 => ?_)
  · have hF := ite_f c1 hF
    refine lv_aload_n hx hb dX5_isSkipped_23 rfl (lv_at hl 0 rfl) ?_
    refine lv_iload_n hx hb dX5_isSkipped_24 rfl (lv_at hl 1 rfl) ?_
    obtain ⟨q2, h3, hF⟩ := ob_some hF
    refine k_Vv (As := [.int x1]) (rest := []) Z hK hP hS (t_X5_cell l G hG i0 x1 hk0 σ _ h3) (cwV 1 hts gX5_isSkipped_X5_cell rfl rfl rfl (by decide +kernel) ⟨Nat.le_of_ble_eq_true rfl, Nat.le_of_ble_eq_true rfl⟩) (at_2 hk0) rfl rfl hl.1 rfl (Nat.le_of_ble_eq_true rfl) ⟨Nat.zero_le _, Nat.zero_le _⟩ dX5_isSkipped_25 (fun H locs hP hS => ?_)
    refine lv_aload_n hx hb dX5_isSkipped_28 rfl (lv_at hl 0 rfl) ?_
    refine va_get (ci := 2) (C := RX5) (T := TX5) (N := 5) (v := .int (σ i0 2)) hx hb hts inX5 hown hK.1 hP i0 (at_2 hk0) rfl 2 (by decide) w1 (fun _ h9 => h9) rfl dX5_isSkipped_29 ?_
    refine lv_iconst (v := 1) hx hb dX5_isSkipped_32 (by decide) ?_
    have J44 : ∀ (z0 : Int32) (z1 : Int32) (H : Heap) (locs : List Loc) (hP : Pw G σ H) (hS : va_S (AG G) s.heap H locs) (ls : Array Slot) (hl : lv_has ls 2 [(0, .ref (gA G i0)), (1, .int x1)]) (hF : f_X5_isSkipped_44 i0 x1 σ z0 z1 = some o), W p l e (headSpec wsX5_isSkipped ({ frames := 1, cells := 0, slots := 0, locals := 21 })).room s m ([.ref (gA G i0), .int x1] : List Value).toArray below meth c H locs 0 0 (MQ below (qR G (some (.int (b2i o))) σ) ([.ref (gA G i0), .int x1] : List Value).toArray s 0 0 (AG G)) (F0 m 44 ls [.int z1, .int z0]) := by
      intro z0 z1 H locs hP hS ls hl hF
      rw [f_X5_isSkipped_44_e] at hF
      refine lv_icmp_ne (tgt := 51) hx hb dX5_isSkipped_44 (by decide) (fun c4 => ?_) (fun c4 => ?_)
      · have hF := ite_f c4 hF
        refine lv_iconst (v := 0) hx hb dX5_isSkipped_51 (by decide) ?_
        exact e_zP (b := false) hx hb hr hP hS hlocks dX5_isSkipped_52 rfl hF
      · have hF := ite_t c4 hF
        refine lv_iconst (v := 1) hx hb dX5_isSkipped_47 (by decide) ?_
        refine lv_goto (tgt := 52) hx hb dX5_isSkipped_48 (by decide) ?_
        exact e_zP (b := true) hx hb hr hP hS hlocks dX5_isSkipped_52 rfl hF
    refine lv_icmp_ne (tgt := 42) hx hb dX5_isSkipped_33 (by decide) (fun c5 => ?_) (fun c5 => ?_)
    · have hF := ite_f c5 hF
      refine lv_ldc hx hb hown w2 dX5_isSkipped_42 ?_
      exact J44 q2 (-2147483648 : Int32) _ _ hP hS ls (lv_sub hl [0, 1] rfl) hF
    · have hF := ite_t c5 hF
      refine lv_sipush (v := -32768) hx hb dX5_isSkipped_36 (by decide) ?_
      refine lv_goto (tgt := 44) hx hb dX5_isSkipped_39 (by decide) ?_
      exact J44 q2 (-32768 : Int32) _ _ hP hS ls (lv_sub hl [0, 1] rfl) hF
  · have hF := ite_t c1 hF
    refine lv_aload_n hx hb dX5_isSkipped_7 rfl (lv_at hl 0 rfl) ?_
    refine lv_iload_n hx hb dX5_isSkipped_8 rfl (lv_at hl 1 rfl) ?_
    obtain ⟨q6, h7, hF⟩ := ob_some hF
    refine k_Vv (As := [.int x1]) (rest := []) Z hK hP hS (t_X5_cell l G hG i0 x1 hk0 σ _ h7) (cwV 1 hts gX5_isSkipped_X5_cell rfl rfl rfl (by decide +kernel) ⟨Nat.le_of_ble_eq_true rfl, Nat.le_of_ble_eq_true rfl⟩) (at_2 hk0) rfl rfl hl.1 rfl (Nat.le_of_ble_eq_true rfl) ⟨Nat.zero_le _, Nat.zero_le _⟩ dX5_isSkipped_9 (fun H locs hP hS => ?_)
    refine lv_bipush (v := -128) hx hb dX5_isSkipped_12 (by decide) ?_
    refine lv_icmp_ne (tgt := 21) hx hb dX5_isSkipped_14 (by decide) (fun c8 => ?_) (fun c8 => ?_)
    · have hF := ite_f c8 hF
      refine lv_iconst (v := 0) hx hb dX5_isSkipped_21 (by decide) ?_
      exact e_zP (b := false) hx hb hr hP hS hlocks dX5_isSkipped_22 rfl hF
    · have hF := ite_t c8 hF
      refine lv_iconst (v := 1) hx hb dX5_isSkipped_17 (by decide) ?_
      refine lv_goto (tgt := 22) hx hb dX5_isSkipped_18 (by decide) ?_
      exact e_zP (b := true) hx hb hr hP hS hlocks dX5_isSkipped_22 rfl hF
def f_X5_tellsAlways_29 (i0 : Nat) (x1 : Int32) (σ : St) (rec2 : Int32 → Option Bool) (v2 : Int32) : Option Bool := (rec2 (v2 + (1 : Int32)))
theorem f_X5_tellsAlways_29_e {i0 : Nat} {x1 : Int32} {σ : St} {rec2 : Int32 → Option Bool} {v2 : Int32} : f_X5_tellsAlways_29 i0 x1 σ rec2 v2 = (rec2 (v2 + (1 : Int32))) := rfl
def f_X5_tellsAlways_2 (i0 : Nat) (x1 : Int32) (σ : St) : Nat → (Int32 → Option Bool)
  | 0 => fun _ => none
  | fl + 1 => fun v2 => (if (σ i0 1) ≤ v2 then (some true) else (ob (f_X5_isSkipped i0 v2 σ) (fun q2 => if q2 = true then f_X5_tellsAlways_29 i0 x1 σ (f_X5_tellsAlways_2 i0 x1 σ fl) v2 else (ob (f_X5_cell i0 v2 σ) (fun q5 => if q5 = x1 then f_X5_tellsAlways_29 i0 x1 σ (f_X5_tellsAlways_2 i0 x1 σ fl) v2 else (some false))))))
theorem f_X5_tellsAlways_2_s {i0 : Nat} {x1 : Int32} {σ : St} (fl : Nat) {v2 : Int32} : f_X5_tellsAlways_2 i0 x1 σ (fl + 1) v2 = (if (σ i0 1) ≤ v2 then (some true) else (ob (f_X5_isSkipped i0 v2 σ) (fun q2 => if q2 = true then f_X5_tellsAlways_29 i0 x1 σ (f_X5_tellsAlways_2 i0 x1 σ fl) v2 else (ob (f_X5_cell i0 v2 σ) (fun q5 => if q5 = x1 then f_X5_tellsAlways_29 i0 x1 σ (f_X5_tellsAlways_2 i0 x1 σ fl) v2 else (some false)))))) := rfl
def f_X5_tellsAlways (i0 : Nat) (x1 : Int32) (σ : St) : Option Bool := (f_X5_tellsAlways_2 i0 x1 σ fu (0 : Int32))
set_option maxRecDepth 100000 in
set_option maxHeartbeats 4000000 in
theorem t_X5_tellsAlways (l : Launch) (G : GT) (hG : Dw G) (i0 : Nat) (x1 : Int32) (hk0 : kd i0 = 2) (σ : St) (o : Bool) (hF : f_X5_tellsAlways i0 x1 σ = some o) : Ct l G yX5_tellsAlways wsX5_tellsAlways 2 42 [.ref (gA G i0), .int x1] σ (some (.int (b2i o))) σ := by
  refine Met.ofW (cc := cX5_tellsAlways) (maxL := 3) (ret := (some .boolean)) (by decide) rfl ?_
  intro p e s m args below meth c s₁ B hml hv
  obtain ⟨rfl, hP, hK⟩ := hv
  have hx := B.exec
  have hb := B.bytes
  have hr := B.returns
  have hts := atoms_spec (ws := wsX5_tellsAlways) B.pre
  have hown : s.vm.findClass RX5 = some m.cls := findClass_of_methodNamed B.named
  have hlocks := B.notSynchronized
  have Z : CallFix p m c cX5_tellsAlways 3 s _ wsX5_tellsAlways RX5 := ⟨hx, hb, hml, hown, hts⟩
  have hS : va_S (AG G) s.heap s.heap [] := va_S.rf
  have inX5 : ∀ w ∈ u_ws RX5 TX5 5, w ∈ wsX5_tellsAlways := by decide +kernel
  have w1 := hts (.fieldLink RX5 13 "AlmanacOfTheYearGone$Shelf" "length" "I") (by decide +kernel)
  have hl := lv_entry ([.ref (gA G i0), .int x1]) (n := 3) (Nat.le_of_ble_eq_true rfl)
  rw [lg_entry_eq]
  generalize (lg_sl ([.ref (gA G i0), .int x1]) ++ List.replicate (3 - (lg_sl ([.ref (gA G i0), .int x1])).length) Slot.unset).toArray = ls at hl ⊢
  have hl : lv_has ls 3 [(0, .ref (gA G i0)), (1, .int x1)] := hl
  unfold f_X5_tellsAlways at hF
  refine lv_iconst (v := 0) hx hb dX5_tellsAlways_0 (by decide) ?_
  have J2 : ∀ (fl : Nat) (v2 : Int32) (H : Heap) (locs : List Loc) (hP : Pw G σ H) (hS : va_S (AG G) s.heap H locs) (ls : Array Slot) (hl : lv_has ls 3 [(0, .ref (gA G i0)), (1, .int x1), (2, .int v2)]) (hF : f_X5_tellsAlways_2 i0 x1 σ fl v2 = some o), W p l e (headSpec wsX5_tellsAlways ({ frames := 2, cells := 0, slots := 0, locals := 42 })).room s m ([.ref (gA G i0), .int x1] : List Value).toArray below meth c H locs 0 0 (MQ below (qR G (some (.int (b2i o))) σ) ([.ref (gA G i0), .int x1] : List Value).toArray s 0 0 (AG G)) (F0 m 2 ls []) := by
    intro fl2
    induction fl2 with
    | zero => intro v2 H locs hP hS ls hl hF; cases hF
    | succ fl2 ih2 =>
      intro v2 H locs hP hS ls hl hF
      rw [f_X5_tellsAlways_2_s] at hF
      refine lv_iload_n hx hb dX5_tellsAlways_2 rfl (lv_at hl 2 rfl) ?_
      refine lv_aload_n hx hb dX5_tellsAlways_3 rfl (lv_at hl 0 rfl) ?_
      refine va_get (ci := 2) (C := RX5) (T := TX5) (N := 5) (v := .int (σ i0 1)) hx hb hts inX5 hown hK.1 hP i0 (at_2 hk0) rfl 1 (by decide) w1 (fun _ h9 => h9) rfl dX5_tellsAlways_4 ?_
      refine lv_icmp_ge (tgt := 35) hx hb dX5_tellsAlways_7 (by decide) (fun c1 => ?_) (fun c1 => ?_)
      · have hF := ite_t c1 hF
        refine lv_iconst (v := 1) hx hb dX5_tellsAlways_35 (by decide) ?_
        exact e_zP (b := true) hx hb hr hP hS hlocks dX5_tellsAlways_36 rfl hF
      · have hF := ite_f c1 hF
        refine lv_aload_n hx hb dX5_tellsAlways_10 rfl (lv_at hl 0 rfl) ?_
        refine lv_iload_n hx hb dX5_tellsAlways_11 rfl (lv_at hl 2 rfl) ?_
        obtain ⟨q2, h3, hF⟩ := ob_some hF
        refine k_Vv (As := [.int v2]) (rest := []) Z hK hP hS (t_X5_isSkipped l G hG i0 v2 hk0 σ _ h3) (cwV 1 hts gX5_tellsAlways_X5_isSkipped rfl rfl rfl (by decide +kernel) ⟨Nat.le_of_ble_eq_true rfl, Nat.le_of_ble_eq_true rfl⟩) (at_2 hk0) rfl rfl hl.1 rfl (Nat.le_of_ble_eq_true rfl) ⟨Nat.zero_le _, Nat.zero_le _⟩ dX5_tellsAlways_12 (fun H locs hP hS => ?_)
        have J29 : ∀ (v2 : Int32) (H : Heap) (locs : List Loc) (hP : Pw G σ H) (hS : va_S (AG G) s.heap H locs) (ls : Array Slot) (hl : lv_has ls 3 [(0, .ref (gA G i0)), (1, .int x1), (2, .int v2)]) (hF : f_X5_tellsAlways_29 i0 x1 σ (f_X5_tellsAlways_2 i0 x1 σ fl2) v2 = some o), W p l e (headSpec wsX5_tellsAlways ({ frames := 2, cells := 0, slots := 0, locals := 42 })).room s m ([.ref (gA G i0), .int x1] : List Value).toArray below meth c H locs 0 0 (MQ below (qR G (some (.int (b2i o))) σ) ([.ref (gA G i0), .int x1] : List Value).toArray s 0 0 (AG G)) (F0 m 29 ls []) := by
          intro v2 H locs hP hS ls hl hF
          rw [f_X5_tellsAlways_29_e] at hF
          refine lv_iinc (v := (v2 + (1 : Int32))) (lv' := [(2, .int (v2 + (1 : Int32))), (0, .ref (gA G i0)), (1, .int x1)]) hx hb dX5_tellsAlways_29 hl (k := 2) rfl rfl (by decide) rfl (fun ls hl => ?_)
          refine lv_goto (tgt := 2) hx hb dX5_tellsAlways_32 (by decide) ?_
          exact ih2 (v2 + (1 : Int32)) _ _ hP hS ls (lv_sub hl [1, 2, 0] rfl) hF
        refine lv_if_ne (tgt := 29) hx hb dX5_tellsAlways_15 (by decide) (fun c4 => ?_) (fun c4 => ?_)
        · have hF := ite_t (b2i_n0 c4) hF
          exact J29 v2 _ _ hP hS ls (lv_sub hl [0, 1, 2] rfl) hF
        · have hF := ite_f (b2i_e0 c4) hF
          refine lv_aload_n hx hb dX5_tellsAlways_18 rfl (lv_at hl 0 rfl) ?_
          refine lv_iload_n hx hb dX5_tellsAlways_19 rfl (lv_at hl 2 rfl) ?_
          obtain ⟨q5, h6, hF⟩ := ob_some hF
          refine k_Vv (As := [.int v2]) (rest := []) Z hK hP hS (t_X5_cell l G hG i0 v2 hk0 σ _ h6) (cwV 1 hts gX5_tellsAlways_X5_cell rfl rfl rfl (by decide +kernel) ⟨Nat.le_of_ble_eq_true rfl, Nat.le_of_ble_eq_true rfl⟩) (at_2 hk0) rfl rfl hl.1 rfl (Nat.le_of_ble_eq_true rfl) ⟨Nat.zero_le _, Nat.zero_le _⟩ dX5_tellsAlways_20 (fun H locs hP hS => ?_)
          refine lv_iload_n hx hb dX5_tellsAlways_23 rfl (lv_at hl 1 rfl) ?_
          refine lv_icmp_eq (tgt := 29) hx hb dX5_tellsAlways_24 (by decide) (fun c7 => ?_) (fun c7 => ?_)
          · have hF := ite_t c7 hF
            exact J29 v2 _ _ hP hS ls (lv_sub hl [0, 1, 2] rfl) hF
          · have hF := ite_f c7 hF
            refine lv_iconst (v := 0) hx hb dX5_tellsAlways_27 (by decide) ?_
            exact e_zP (b := false) hx hb hr hP hS hlocks dX5_tellsAlways_28 rfl hF
  refine lv_istore_n (lv' := [(2, .int (0 : Int32)), (0, .ref (gA G i0)), (1, .int x1)]) hx hb dX5_tellsAlways_1 rfl hl (by decide) rfl (fun ls hl => ?_)
  exact J2 fu (0 : Int32) _ _ hP hS ls (lv_sub hl [1, 2, 0] rfl) hF
