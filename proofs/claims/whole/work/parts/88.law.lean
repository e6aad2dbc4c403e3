section LAW
variable {p : Program} {l : Launch} {e : Env} {R : Room} {s : State} {m : MethodId} {below : List Frame} {meth : Method} {c : Code} {H : Heap} {locs : List Loc} {cells slots : Nat} {Q : State → Prop}
variable {G : GT} {σ : St} {b L i pc : Nat} {xs : Nat → Int32} {ls : Array Slot} {rest : List Value}
set_option maxRecDepth 100000 in
set_option maxHeartbeats 4000000 in
theorem law_c14 (C : Lc p l s m meth c G b L xs) (hI : Inv σ) (hP : Pw G σ H) (hS : va_S (AG G) s.heap H locs) (hi : i + 6 ≤ L) (hl : lv_has ls 8 (lv5 G b i)) (hR : cells + 1 ≤ room_1.cells ∧ slots + 6 ≤ room_1.slots) (kk : ∀ (σ1 : St) (H1 : Heap) (locs1 : List Loc) (ls1 : Array Slot), Inv σ1 → Pw G σ1 H1 → va_S (AG G) s.heap H1 locs1 → lv_has ls1 8 (lv5 G b i) → W p l e room_1 s m #[Value.ref b] below meth c H1 locs1 (cells + 1) (slots + 6) Q (F0 m 1642 ls1 [])) : W p l e room_1 s m #[Value.ref b] below meth c H locs cells slots Q (F0 m 622 ls []) := by
  have C0 := C
  obtain ⟨hx, hb, hml, hown, hts, hX, hbl, hlk, hr, hK, hXs, hgL, hG, hL, hfl⟩ := C
  have Z : CallFix p m c cL_law 8 s #[Value.ref b] wsL_law RL := ⟨hx, hb, hml, hown, hts⟩
  have hc : cells ≤ room_1.cells ∧ slots ≤ room_1.slots := ⟨by omega, by omega⟩
  obtain ⟨r, σ1, σ2, e1, e2, hI⟩ := p_looksUp hI (xs (i + 1)) (xs (i + 2))
  refine lv_aload_n hx hb dL_law_622 rfl (lv_at hl 2 rfl) ?_
  refine law_arg C0 hS hi hl 1 (n := 1) (by decide) rfl rfl (by decide) dL_law_623 dL_law_624 dL_law_626 dL_law_627 dL_law_628 ?_
  refine law_arg C0 hS hi hl 2 (n := 2) (by decide) rfl rfl (by decide) dL_law_629 dL_law_630 dL_law_632 dL_law_633 dL_law_634 ?_
  refine k_Vv (As := [.int (xs (i + 1)), .int (xs (i + 2))]) (rest := []) Z hK hP hS (t_X8_looksUp l G hG (xs (i + 1)) (xs (i + 2)) σ _ e1) (cwV 2 hts gL_law_X8_looksUp rfl rfl rfl (by decide +kernel) ⟨Nat.le_of_ble_eq_true rfl, Nat.le_of_ble_eq_true rfl⟩) (at_4 rfl) rfl rfl hl.1 rfl (Nat.le_of_ble_eq_true rfl) hc dL_law_635 (fun H locs hP hS => ?_)
  have hP : Pw G σ1 H := hP
  refine lv_aload_n hx hb dL_law_638 rfl (lv_at hl 3 rfl) ?_
  refine law_arg C0 hS hi hl 1 (n := 1) (by decide) rfl rfl (by decide) dL_law_639 dL_law_640 dL_law_642 dL_law_643 dL_law_644 ?_
  refine law_arg C0 hS hi hl 2 (n := 2) (by decide) rfl rfl (by decide) dL_law_645 dL_law_646 dL_law_648 dL_law_649 dL_law_650 ?_
  refine k_Vv (As := [.int (xs (i + 1)), .int (xs (i + 2))]) (rest := [.int r]) Z hK hP hS (t_X9_looksUp l G hG (xs (i + 1)) (xs (i + 2)) σ1 _ e2) (cwV 2 hts gL_law_X9_looksUp rfl rfl rfl (by decide +kernel) ⟨Nat.le_of_ble_eq_true rfl, Nat.le_of_ble_eq_true rfl⟩) (at_5 rfl) rfl rfl hl.1 rfl (Nat.le_of_ble_eq_true rfl) hc dL_law_651 (fun H locs hP hS => ?_)
  have hP : Pw G σ2 H := hP
  refine lv_icmp_eq (tgt := 1642) hx hb dL_law_654 (by decide) (fun _ => ?_) (fun h => absurd rfl h)
  refine W.widen (k := cells + 1) (n := slots + 6) (Nat.le_add_right _ _) (Nat.le_add_right _ _) ?_
  exact kk σ2 H locs ls hI hP hS hl
set_option maxRecDepth 100000 in
set_option maxHeartbeats 4000000 in
theorem law_c15 (C : Lc p l s m meth c G b L xs) (hI : Inv σ) (hP : Pw G σ H) (hS : va_S (AG G) s.heap H locs) (hi : i + 6 ≤ L) (hl : lv_has ls 8 (lv5 G b i)) (hR : cells + 1 ≤ room_1.cells ∧ slots + 6 ≤ room_1.slots) (kk : ∀ (σ1 : St) (H1 : Heap) (locs1 : List Loc) (ls1 : Array Slot), Inv σ1 → Pw G σ1 H1 → va_S (AG G) s.heap H1 locs1 → lv_has ls1 8 (lv5 G b i) → W p l e room_1 s m #[Value.ref b] below meth c H1 locs1 (cells + 1) (slots + 6) Q (F0 m 1642 ls1 [])) : W p l e room_1 s m #[Value.ref b] below meth c H locs cells slots Q (F0 m 659 ls []) := by
  have C0 := C
  obtain ⟨hx, hb, hml, hown, hts, hX, hbl, hlk, hr, hK, hXs, hgL, hG, hL, hfl⟩ := C
  have Z : CallFix p m c cL_law 8 s #[Value.ref b] wsL_law RL := ⟨hx, hb, hml, hown, hts⟩
  have hc : cells ≤ room_1.cells ∧ slots ≤ room_1.slots := ⟨by omega, by omega⟩
  obtain ⟨r, σ1, σ2, e1, e2, hI⟩ := p_uncut hI (xs (i + 1)) (xs (i + 2))
  refine lv_aload_n hx hb dL_law_659 rfl (lv_at hl 2 rfl) ?_
  refine law_arg C0 hS hi hl 1 (n := 1) (by decide) rfl rfl (by decide) dL_law_660 dL_law_661 dL_law_663 dL_law_664 dL_law_665 ?_
  refine law_arg C0 hS hi hl 2 (n := 2) (by decide) rfl rfl (by decide) dL_law_666 dL_law_667 dL_law_669 dL_law_670 dL_law_671 ?_
  refine k_Vv (As := [.int (xs (i + 1)), .int (xs (i + 2))]) (rest := []) Z hK hP hS (t_X8_uncut l G hG (xs (i + 1)) (xs (i + 2)) σ _ e1) (cwV 2 hts gL_law_X8_uncut rfl rfl rfl (by decide +kernel) ⟨Nat.le_of_ble_eq_true rfl, Nat.le_of_ble_eq_true rfl⟩) (at_4 rfl) rfl rfl hl.1 rfl (Nat.le_of_ble_eq_true rfl) hc dL_law_672 (fun H locs hP hS => ?_)
  have hP : Pw G σ1 H := hP
  refine lv_aload_n hx hb dL_law_675 rfl (lv_at hl 3 rfl) ?_
  refine law_arg C0 hS hi hl 1 (n := 1) (by decide) rfl rfl (by decide) dL_law_676 dL_law_677 dL_law_679 dL_law_680 dL_law_681 ?_
  refine law_arg C0 hS hi hl 2 (n := 2) (by decide) rfl rfl (by decide) dL_law_682 dL_law_683 dL_law_685 dL_law_686 dL_law_687 ?_
  refine k_Vv (As := [.int (xs (i + 1)), .int (xs (i + 2))]) (rest := [.int r]) Z hK hP hS (t_X9_uncut l G hG (xs (i + 1)) (xs (i + 2)) σ1 _ e2) (cwV 2 hts gL_law_X9_uncut rfl rfl rfl (by decide +kernel) ⟨Nat.le_of_ble_eq_true rfl, Nat.le_of_ble_eq_true rfl⟩) (at_5 rfl) rfl rfl hl.1 rfl (Nat.le_of_ble_eq_true rfl) hc dL_law_688 (fun H locs hP hS => ?_)
  have hP : Pw G σ2 H := hP
  refine lv_icmp_eq (tgt := 1642) hx hb dL_law_691 (by decide) (fun _ => ?_) (fun h => absurd rfl h)
  refine W.widen (k := cells + 1) (n := slots + 6) (Nat.le_add_right _ _) (Nat.le_add_right _ _) ?_
  exact kk σ2 H locs ls hI hP hS hl
set_option maxRecDepth 100000 in
set_option maxHeartbeats 4000000 in
theorem law_c16 (C : Lc p l s m meth c G b L xs) (hI : Inv σ) (hP : Pw G σ H) (hS : va_S (AG G) s.heap H locs) (hi : i + 6 ≤ L) (hl : lv_has ls 8 (lv5 G b i)) (hR : cells + 1 ≤ room_1.cells ∧ slots + 6 ≤ room_1.slots) (kk : ∀ (σ1 : St) (H1 : Heap) (locs1 : List Loc) (ls1 : Array Slot), Inv σ1 → Pw G σ1 H1 → va_S (AG G) s.heap H1 locs1 → lv_has ls1 8 (lv5 G b i) → W p l e room_1 s m #[Value.ref b] below meth c H1 locs1 (cells + 1) (slots + 6) Q (F0 m 1642 ls1 [])) : W p l e room_1 s m #[Value.ref b] below meth c H locs cells slots Q (F0 m 696 ls []) := by
  have C0 := C
  obtain ⟨hx, hb, hml, hown, hts, hX, hbl, hlk, hr, hK, hXs, hgL, hG, hL, hfl⟩ := C
  have Z : CallFix p m c cL_law 8 s #[Value.ref b] wsL_law RL := ⟨hx, hb, hml, hown, hts⟩
  have hc : cells ≤ room_1.cells ∧ slots ≤ room_1.slots := ⟨by omega, by omega⟩
  obtain ⟨r, σ1, e1, e2, hI⟩ := p_guilty hI (xs (i + 1))
  refine lv_aload_n hx hb dL_law_696 rfl (lv_at hl 2 rfl) ?_
  refine law_arg C0 hS hi hl 1 (n := 1) (by decide) rfl rfl (by decide) dL_law_697 dL_law_698 dL_law_700 dL_law_701 dL_law_702 ?_
  refine k_Vv (As := [.int (xs (i + 1))]) (rest := []) Z hK hP hS (t_X8_guilty l G hG (xs (i + 1)) σ _ e1) (cwV 1 hts gL_law_X8_guilty rfl rfl rfl (by decide +kernel) ⟨Nat.le_of_ble_eq_true rfl, Nat.le_of_ble_eq_true rfl⟩) (at_4 rfl) rfl rfl hl.1 rfl (Nat.le_of_ble_eq_true rfl) hc dL_law_703 (fun H locs hP hS => ?_)
  have hP : Pw G σ1 H := hP
  refine lv_aload_n hx hb dL_law_706 rfl (lv_at hl 3 rfl) ?_
  refine law_arg C0 hS hi hl 1 (n := 1) (by decide) rfl rfl (by decide) dL_law_707 dL_law_708 dL_law_710 dL_law_711 dL_law_712 ?_
  refine k_Vv (As := [.int (xs (i + 1))]) (rest := [.int r]) Z hK hP hS (t_X9_guilty l G hG (xs (i + 1)) σ1 _ e2) (cwV 1 hts gL_law_X9_guilty rfl rfl rfl (by decide +kernel) ⟨Nat.le_of_ble_eq_true rfl, Nat.le_of_ble_eq_true rfl⟩) (at_5 rfl) rfl rfl hl.1 rfl (Nat.le_of_ble_eq_true rfl) hc dL_law_713 (fun H locs hP hS => ?_)
  have hP : Pw G σ1 H := hP
  refine lv_icmp_eq (tgt := 1642) hx hb dL_law_716 (by decide) (fun _ => ?_) (fun h => absurd rfl h)
  refine W.widen (k := cells + 1) (n := slots + 6) (Nat.le_add_right _ _) (Nat.le_add_right _ _) ?_
  exact kk σ1 H locs ls hI hP hS hl
set_option maxRecDepth 100000 in
set_option maxHeartbeats 4000000 in
theorem law_c17 (C : Lc p l s m meth c G b L xs) (hI : Inv σ) (hP : Pw G σ H) (hS : va_S (AG G) s.heap H locs) (hi : i + 6 ≤ L) (hl : lv_has ls 8 (lv5 G b i)) (hR : cells + 1 ≤ room_1.cells ∧ slots + 6 ≤ room_1.slots) (kk : ∀ (σ1 : St) (H1 : Heap) (locs1 : List Loc) (ls1 : Array Slot), Inv σ1 → Pw G σ1 H1 → va_S (AG G) s.heap H1 locs1 → lv_has ls1 8 (lv5 G b i) → W p l e room_1 s m #[Value.ref b] below meth c H1 locs1 (cells + 1) (slots + 6) Q (F0 m 1642 ls1 [])) : W p l e room_1 s m #[Value.ref b] below meth c H locs cells slots Q (F0 m 721 ls []) := by
  have C0 := C
  obtain ⟨hx, hb, hml, hown, hts, hX, hbl, hlk, hr, hK, hXs, hgL, hG, hL, hfl⟩ := C
  have Z : CallFix p m c cL_law 8 s #[Value.ref b] wsL_law RL := ⟨hx, hb, hml, hown, hts⟩
  have hc : cells ≤ room_1.cells ∧ slots ≤ room_1.slots := ⟨by omega, by omega⟩
  obtain ⟨r, σ1, e1, e2, hI⟩ := p_price hI (xs (i + 1))
  refine lv_aload_n hx hb dL_law_721 rfl (lv_at hl 2 rfl) ?_
  refine law_arg C0 hS hi hl 1 (n := 1) (by decide) rfl rfl (by decide) dL_law_722 dL_law_723 dL_law_725 dL_law_726 dL_law_727 ?_
  refine k_Vv (As := [.int (xs (i + 1))]) (rest := []) Z hK hP hS (t_X8_price l G hG (xs (i + 1)) σ _ e1) (cwV 1 hts gL_law_X8_price rfl rfl rfl (by decide +kernel) ⟨Nat.le_of_ble_eq_true rfl, Nat.le_of_ble_eq_true rfl⟩) (at_4 rfl) rfl rfl hl.1 rfl (Nat.le_of_ble_eq_true rfl) hc dL_law_728 (fun H locs hP hS => ?_)
  have hP : Pw G σ1 H := hP
  refine lv_aload_n hx hb dL_law_731 rfl (lv_at hl 3 rfl) ?_
  refine law_arg C0 hS hi hl 1 (n := 1) (by decide) rfl rfl (by decide) dL_law_732 dL_law_733 dL_law_735 dL_law_736 dL_law_737 ?_
  refine k_Vv (As := [.int (xs (i + 1))]) (rest := [.int r]) Z hK hP hS (t_X9_price l G hG (xs (i + 1)) σ1 _ e2) (cwV 1 hts gL_law_X9_price rfl rfl rfl (by decide +kernel) ⟨Nat.le_of_ble_eq_true rfl, Nat.le_of_ble_eq_true rfl⟩) (at_5 rfl) rfl rfl hl.1 rfl (Nat.le_of_ble_eq_true rfl) hc dL_law_738 (fun H locs hP hS => ?_)
  have hP : Pw G σ1 H := hP
  refine lv_icmp_eq (tgt := 1642) hx hb dL_law_741 (by decide) (fun _ => ?_) (fun h => absurd rfl h)
  refine W.widen (k := cells + 1) (n := slots + 6) (Nat.le_add_right _ _) (Nat.le_add_right _ _) ?_
  exact kk σ1 H locs ls hI hP hS hl
set_option maxRecDepth 100000 in
set_option maxHeartbeats 4000000 in
theorem law_c18 (C : Lc p l s m meth c G b L xs) (hI : Inv σ) (hP : Pw G σ H) (hS : va_S (AG G) s.heap H locs) (hi : i + 6 ≤ L) (hl : lv_has ls 8 (lv5 G b i)) (hR : cells + 1 ≤ room_1.cells ∧ slots + 6 ≤ room_1.slots) (kk : ∀ (σ1 : St) (H1 : Heap) (locs1 : List Loc) (ls1 : Array Slot), Inv σ1 → Pw G σ1 H1 → va_S (AG G) s.heap H1 locs1 → lv_has ls1 8 (lv5 G b i) → W p l e room_1 s m #[Value.ref b] below meth c H1 locs1 (cells + 1) (slots + 6) Q (F0 m 1642 ls1 [])) : W p l e room_1 s m #[Value.ref b] below meth c H locs cells slots Q (F0 m 746 ls []) := by
  have C0 := C
  obtain ⟨hx, hb, hml, hown, hts, hX, hbl, hlk, hr, hK, hXs, hgL, hG, hL, hfl⟩ := C
  have Z : CallFix p m c cL_law 8 s #[Value.ref b] wsL_law RL := ⟨hx, hb, hml, hown, hts⟩
  have hc : cells ≤ room_1.cells ∧ slots ≤ room_1.slots := ⟨by omega, by omega⟩
  obtain ⟨r, e1, e2⟩ := p_slips hI (xs (i + 1)) (xs (i + 2))
  refine lv_aload_n hx hb dL_law_746 rfl (lv_at hl 2 rfl) ?_
  refine law_arg C0 hS hi hl 1 (n := 1) (by decide) rfl rfl (by decide) dL_law_747 dL_law_748 dL_law_750 dL_law_751 dL_law_752 ?_
  refine law_arg C0 hS hi hl 2 (n := 2) (by decide) rfl rfl (by decide) dL_law_753 dL_law_754 dL_law_756 dL_law_757 dL_law_758 ?_
  refine k_Vv (As := [.int (xs (i + 1)), .int (xs (i + 2))]) (rest := []) Z hK hP hS (t_X8_slips l G hG (xs (i + 1)) (xs (i + 2)) σ _ e1) (cwV 2 hts gL_law_X8_slips rfl rfl rfl (by decide +kernel) ⟨Nat.le_of_ble_eq_true rfl, Nat.le_of_ble_eq_true rfl⟩) (at_4 rfl) rfl rfl hl.1 rfl (Nat.le_of_ble_eq_true rfl) hc dL_law_759 (fun H locs hP hS => ?_)
  have hP : Pw G σ H := hP
  refine lv_aload_n hx hb dL_law_762 rfl (lv_at hl 3 rfl) ?_
  refine law_arg C0 hS hi hl 1 (n := 1) (by decide) rfl rfl (by decide) dL_law_763 dL_law_764 dL_law_766 dL_law_767 dL_law_768 ?_
  refine law_arg C0 hS hi hl 2 (n := 2) (by decide) rfl rfl (by decide) dL_law_769 dL_law_770 dL_law_772 dL_law_773 dL_law_774 ?_
  refine k_Vv (As := [.int (xs (i + 1)), .int (xs (i + 2))]) (rest := [.int r]) Z hK hP hS (t_X9_slips l G hG (xs (i + 1)) (xs (i + 2)) σ _ e2) (cwV 2 hts gL_law_X9_slips rfl rfl rfl (by decide +kernel) ⟨Nat.le_of_ble_eq_true rfl, Nat.le_of_ble_eq_true rfl⟩) (at_5 rfl) rfl rfl hl.1 rfl (Nat.le_of_ble_eq_true rfl) hc dL_law_775 (fun H locs hP hS => ?_)
  have hP : Pw G σ H := hP
  refine lv_icmp_eq (tgt := 1642) hx hb dL_law_778 (by decide) (fun _ => ?_) (fun h => absurd rfl h)
  refine W.widen (k := cells + 1) (n := slots + 6) (Nat.le_add_right _ _) (Nat.le_add_right _ _) ?_
  exact kk σ H locs ls hI hP hS hl
set_option maxRecDepth 100000 in
set_option maxHeartbeats 4000000 in
theorem law_c19 (C : Lc p l s m meth c G b L xs) (hI : Inv σ) (hP : Pw G σ H) (hS : va_S (AG G) s.heap H locs) (hi : i + 6 ≤ L) (hl : lv_has ls 8 (lv5 G b i)) (hR : cells + 1 ≤ room_1.cells ∧ slots + 6 ≤ room_1.slots) (kk : ∀ (σ1 : St) (H1 : Heap) (locs1 : List Loc) (ls1 : Array Slot), Inv σ1 → Pw G σ1 H1 → va_S (AG G) s.heap H1 locs1 → lv_has ls1 8 (lv5 G b i) → W p l e room_1 s m #[Value.ref b] below meth c H1 locs1 (cells + 1) (slots + 6) Q (F0 m 1642 ls1 [])) : W p l e room_1 s m #[Value.ref b] below meth c H locs cells slots Q (F0 m 783 ls []) := by
  have C0 := C
  obtain ⟨hx, hb, hml, hown, hts, hX, hbl, hlk, hr, hK, hXs, hgL, hG, hL, hfl⟩ := C
  have Z : CallFix p m c cL_law 8 s #[Value.ref b] wsL_law RL := ⟨hx, hb, hml, hown, hts⟩
  have hc : cells ≤ room_1.cells ∧ slots ≤ room_1.slots := ⟨by omega, by omega⟩
  obtain ⟨r, e1, e2⟩ := p_trueDay hI (xs (i + 1)) (xs (i + 2))
  refine lv_aload_n hx hb dL_law_783 rfl (lv_at hl 2 rfl) ?_
  refine law_arg C0 hS hi hl 1 (n := 1) (by decide) rfl rfl (by decide) dL_law_784 dL_law_785 dL_law_787 dL_law_788 dL_law_789 ?_
  refine law_arg C0 hS hi hl 2 (n := 2) (by decide) rfl rfl (by decide) dL_law_790 dL_law_791 dL_law_793 dL_law_794 dL_law_795 ?_
  refine k_Vv (As := [.int (xs (i + 1)), .int (xs (i + 2))]) (rest := []) Z hK hP hS (t_X8_trueDay l G hG (xs (i + 1)) (xs (i + 2)) σ _ e1) (cwV 2 hts gL_law_X8_trueDay rfl rfl rfl (by decide +kernel) ⟨Nat.le_of_ble_eq_true rfl, Nat.le_of_ble_eq_true rfl⟩) (at_4 rfl) rfl rfl hl.1 rfl (Nat.le_of_ble_eq_true rfl) hc dL_law_796 (fun H locs hP hS => ?_)
  have hP : Pw G σ H := hP
  refine lv_aload_n hx hb dL_law_799 rfl (lv_at hl 3 rfl) ?_
  refine law_arg C0 hS hi hl 1 (n := 1) (by decide) rfl rfl (by decide) dL_law_800 dL_law_801 dL_law_803 dL_law_804 dL_law_805 ?_
  refine law_arg C0 hS hi hl 2 (n := 2) (by decide) rfl rfl (by decide) dL_law_806 dL_law_807 dL_law_809 dL_law_810 dL_law_811 ?_
  refine k_Vv (As := [.int (xs (i + 1)), .int (xs (i + 2))]) (rest := [.int r]) Z hK hP hS (t_X9_trueDay l G hG (xs (i + 1)) (xs (i + 2)) σ _ e2) (cwV 2 hts gL_law_X9_trueDay rfl rfl rfl (by decide +kernel) ⟨Nat.le_of_ble_eq_true rfl, Nat.le_of_ble_eq_true rfl⟩) (at_5 rfl) rfl rfl hl.1 rfl (Nat.le_of_ble_eq_true rfl) hc dL_law_812 (fun H locs hP hS => ?_)
  have hP : Pw G σ H := hP
  refine lv_icmp_eq (tgt := 1642) hx hb dL_law_815 (by decide) (fun _ => ?_) (fun h => absurd rfl h)
  refine W.widen (k := cells + 1) (n := slots + 6) (Nat.le_add_right _ _) (Nat.le_add_right _ _) ?_
  exact kk σ H locs ls hI hP hS hl
set_option maxRecDepth 100000 in
set_option maxHeartbeats 4000000 in
theorem law_c20 (C : Lc p l s m meth c G b L xs) (hI : Inv σ) (hP : Pw G σ H) (hS : va_S (AG G) s.heap H locs) (hi : i + 6 ≤ L) (hl : lv_has ls 8 (lv5 G b i)) (hR : cells + 1 ≤ room_1.cells ∧ slots + 6 ≤ room_1.slots) (kk : ∀ (σ1 : St) (H1 : Heap) (locs1 : List Loc) (ls1 : Array Slot), Inv σ1 → Pw G σ1 H1 → va_S (AG G) s.heap H1 locs1 → lv_has ls1 8 (lv5 G b i) → W p l e room_1 s m #[Value.ref b] below meth c H1 locs1 (cells + 1) (slots + 6) Q (F0 m 1642 ls1 [])) : W p l e room_1 s m #[Value.ref b] below meth c H locs cells slots Q (F0 m 820 ls []) := by
  have C0 := C
  obtain ⟨hx, hb, hml, hown, hts, hX, hbl, hlk, hr, hK, hXs, hgL, hG, hL, hfl⟩ := C
  have Z : CallFix p m c cL_law 8 s #[Value.ref b] wsL_law RL := ⟨hx, hb, hml, hown, hts⟩
  have hc : cells ≤ room_1.cells ∧ slots ≤ room_1.slots := ⟨by omega, by omega⟩
  obtain ⟨r, σ2, e1, e2, hI⟩ := p_mayBe hI (xs (i + 1)) (xs (i + 2))
  refine lv_aload_n hx hb dL_law_820 rfl (lv_at hl 2 rfl) ?_
  refine law_arg C0 hS hi hl 1 (n := 1) (by decide) rfl rfl (by decide) dL_law_821 dL_law_822 dL_law_824 dL_law_825 dL_law_826 ?_
  refine law_arg C0 hS hi hl 2 (n := 2) (by decide) rfl rfl (by decide) dL_law_827 dL_law_828 dL_law_830 dL_law_831 dL_law_832 ?_
  refine k_Vv (As := [.int (xs (i + 1)), .int (xs (i + 2))]) (rest := []) Z hK hP hS (t_X8_mayBe l G hG (xs (i + 1)) (xs (i + 2)) σ _ e1) (cwV 2 hts gL_law_X8_mayBe rfl rfl rfl (by decide +kernel) ⟨Nat.le_of_ble_eq_true rfl, Nat.le_of_ble_eq_true rfl⟩) (at_4 rfl) rfl rfl hl.1 rfl (Nat.le_of_ble_eq_true rfl) hc dL_law_833 (fun H locs hP hS => ?_)
  have hP : Pw G σ H := hP
  refine lv_aload_n hx hb dL_law_836 rfl (lv_at hl 3 rfl) ?_
  refine law_arg C0 hS hi hl 1 (n := 1) (by decide) rfl rfl (by decide) dL_law_837 dL_law_838 dL_law_840 dL_law_841 dL_law_842 ?_
  refine law_arg C0 hS hi hl 2 (n := 2) (by decide) rfl rfl (by decide) dL_law_843 dL_law_844 dL_law_846 dL_law_847 dL_law_848 ?_
  refine k_Vv (As := [.int (xs (i + 1)), .int (xs (i + 2))]) (rest := [.int r]) Z hK hP hS (t_X9_mayBe l G hG (xs (i + 1)) (xs (i + 2)) σ _ e2) (cwV 2 hts gL_law_X9_mayBe rfl rfl rfl (by decide +kernel) ⟨Nat.le_of_ble_eq_true rfl, Nat.le_of_ble_eq_true rfl⟩) (at_5 rfl) rfl rfl hl.1 rfl (Nat.le_of_ble_eq_true rfl) hc dL_law_849 (fun H locs hP hS => ?_)
  have hP : Pw G σ2 H := hP
  refine lv_icmp_eq (tgt := 1642) hx hb dL_law_852 (by decide) (fun _ => ?_) (fun h => absurd rfl h)
  refine W.widen (k := cells + 1) (n := slots + 6) (Nat.le_add_right _ _) (Nat.le_add_right _ _) ?_
  exact kk σ2 H locs ls hI hP hS hl
set_option maxRecDepth 100000 in
set_option maxHeartbeats 4000000 in
theorem law_c21 (C : Lc p l s m meth c G b L xs) (hI : Inv σ) (hP : Pw G σ H) (hS : va_S (AG G) s.heap H locs) (hi : i + 6 ≤ L) (hl : lv_has ls 8 (lv5 G b i)) (hR : cells + 1 ≤ room_1.cells ∧ slots + 6 ≤ room_1.slots) (kk : ∀ (σ1 : St) (H1 : Heap) (locs1 : List Loc) (ls1 : Array Slot), Inv σ1 → Pw G σ1 H1 → va_S (AG G) s.heap H1 locs1 → lv_has ls1 8 (lv5 G b i) → W p l e room_1 s m #[Value.ref b] below meth c H1 locs1 (cells + 1) (slots + 6) Q (F0 m 1642 ls1 [])) : W p l e room_1 s m #[Value.ref b] below meth c H locs cells slots Q (F0 m 857 ls []) := by
  have C0 := C
  obtain ⟨hx, hb, hml, hown, hts, hX, hbl, hlk, hr, hK, hXs, hgL, hG, hL, hfl⟩ := C
  have Z : CallFix p m c cL_law 8 s #[Value.ref b] wsL_law RL := ⟨hx, hb, hml, hown, hts⟩
  have hc : cells ≤ room_1.cells ∧ slots ≤ room_1.slots := ⟨by omega, by omega⟩
  obtain ⟨r, e1, e2⟩ := p_law hI (xs (i + 1)) (xs (i + 2)) (xs (i + 3))
  refine lv_aload_n hx hb dL_law_857 rfl (lv_at hl 2 rfl) ?_
  refine law_arg C0 hS hi hl 1 (n := 1) (by decide) rfl rfl (by decide) dL_law_858 dL_law_859 dL_law_861 dL_law_862 dL_law_863 ?_
  refine law_arg C0 hS hi hl 2 (n := 2) (by decide) rfl rfl (by decide) dL_law_864 dL_law_865 dL_law_867 dL_law_868 dL_law_869 ?_
  refine law_arg C0 hS hi hl 3 (n := 3) (by decide) rfl rfl (by decide) dL_law_870 dL_law_871 dL_law_873 dL_law_874 dL_law_875 ?_
  refine k_Vv (As := [.int (xs (i + 1)), .int (xs (i + 2)), .int (xs (i + 3))]) (rest := []) Z hK hP hS (t_X8_law l G hG (xs (i + 1)) (xs (i + 2)) (xs (i + 3)) σ _ e1) (cwV 3 hts gL_law_X8_law rfl rfl rfl (by decide +kernel) ⟨Nat.le_of_ble_eq_true rfl, Nat.le_of_ble_eq_true rfl⟩) (at_4 rfl) rfl rfl hl.1 rfl (Nat.le_of_ble_eq_true rfl) hc dL_law_876 (fun H locs hP hS => ?_)
  have hP : Pw G σ H := hP
  refine lv_aload_n hx hb dL_law_879 rfl (lv_at hl 3 rfl) ?_
  refine law_arg C0 hS hi hl 1 (n := 1) (by decide) rfl rfl (by decide) dL_law_880 dL_law_881 dL_law_883 dL_law_884 dL_law_885 ?_
  refine law_arg C0 hS hi hl 2 (n := 2) (by decide) rfl rfl (by decide) dL_law_886 dL_law_887 dL_law_889 dL_law_890 dL_law_891 ?_
  refine law_arg C0 hS hi hl 3 (n := 3) (by decide) rfl rfl (by decide) dL_law_892 dL_law_893 dL_law_895 dL_law_896 dL_law_897 ?_
  refine k_Vv (As := [.int (xs (i + 1)), .int (xs (i + 2)), .int (xs (i + 3))]) (rest := [.int r]) Z hK hP hS (t_X9_law l G hG (xs (i + 1)) (xs (i + 2)) (xs (i + 3)) σ _ e2) (cwV 3 hts gL_law_X9_law rfl rfl rfl (by decide +kernel) ⟨Nat.le_of_ble_eq_true rfl, Nat.le_of_ble_eq_true rfl⟩) (at_5 rfl) rfl rfl hl.1 rfl (Nat.le_of_ble_eq_true rfl) hc dL_law_898 (fun H locs hP hS => ?_)
  have hP : Pw G σ H := hP
  refine lv_icmp_eq (tgt := 1642) hx hb dL_law_901 (by decide) (fun _ => ?_) (fun h => absurd rfl h)
  refine W.widen (k := cells + 1) (n := slots + 6) (Nat.le_add_right _ _) (Nat.le_add_right _ _) ?_
  exact kk σ H locs ls hI hP hS hl
set_option maxRecDepth 100000 in
set_option maxHeartbeats 4000000 in
theorem law_c22 (C : Lc p l s m meth c G b L xs) (hI : Inv σ) (hP : Pw G σ H) (hS : va_S (AG G) s.heap H locs) (hi : i + 6 ≤ L) (hl : lv_has ls 8 (lv5 G b i)) (hR : cells + 1 ≤ room_1.cells ∧ slots + 6 ≤ room_1.slots) (kk : ∀ (σ1 : St) (H1 : Heap) (locs1 : List Loc) (ls1 : Array Slot), Inv σ1 → Pw G σ1 H1 → va_S (AG G) s.heap H1 locs1 → lv_has ls1 8 (lv5 G b i) → W p l e room_1 s m #[Value.ref b] below meth c H1 locs1 (cells + 1) (slots + 6) Q (F0 m 1642 ls1 [])) : W p l e room_1 s m #[Value.ref b] below meth c H locs cells slots Q (F0 m 906 ls []) := by
  have C0 := C
  obtain ⟨hx, hb, hml, hown, hts, hX, hbl, hlk, hr, hK, hXs, hgL, hG, hL, hfl⟩ := C
  have Z : CallFix p m c cL_law 8 s #[Value.ref b] wsL_law RL := ⟨hx, hb, hml, hown, hts⟩
  have hc : cells ≤ room_1.cells ∧ slots ≤ room_1.slots := ⟨by omega, by omega⟩
  obtain ⟨r, e1, e2⟩ := p_leastInIt hI (xs (i + 1)) (xs (i + 2))
  refine lv_aload_n hx hb dL_law_906 rfl (lv_at hl 2 rfl) ?_
  refine law_arg C0 hS hi hl 1 (n := 1) (by decide) rfl rfl (by decide) dL_law_907 dL_law_908 dL_law_910 dL_law_911 dL_law_912 ?_
  refine law_arg C0 hS hi hl 2 (n := 2) (by decide) rfl rfl (by decide) dL_law_913 dL_law_914 dL_law_916 dL_law_917 dL_law_918 ?_
  refine k_Vv (As := [.int (xs (i + 1)), .int (xs (i + 2))]) (rest := []) Z hK hP hS (t_X8_leastInIt l G hG (xs (i + 1)) (xs (i + 2)) σ _ e1) (cwV 2 hts gL_law_X8_leastInIt rfl rfl rfl (by decide +kernel) ⟨Nat.le_of_ble_eq_true rfl, Nat.le_of_ble_eq_true rfl⟩) (at_4 rfl) rfl rfl hl.1 rfl (Nat.le_of_ble_eq_true rfl) hc dL_law_919 (fun H locs hP hS => ?_)
  have hP : Pw G σ H := hP
  refine lv_aload_n hx hb dL_law_922 rfl (lv_at hl 3 rfl) ?_
  refine law_arg C0 hS hi hl 1 (n := 1) (by decide) rfl rfl (by decide) dL_law_923 dL_law_924 dL_law_926 dL_law_927 dL_law_928 ?_
  refine law_arg C0 hS hi hl 2 (n := 2) (by decide) rfl rfl (by decide) dL_law_929 dL_law_930 dL_law_932 dL_law_933 dL_law_934 ?_
  refine k_Vv (As := [.int (xs (i + 1)), .int (xs (i + 2))]) (rest := [.int r]) Z hK hP hS (t_X9_leastInIt l G hG (xs (i + 1)) (xs (i + 2)) σ _ e2) (cwV 2 hts gL_law_X9_leastInIt rfl rfl rfl (by decide +kernel) ⟨Nat.le_of_ble_eq_true rfl, Nat.le_of_ble_eq_true rfl⟩) (at_5 rfl) rfl rfl hl.1 rfl (Nat.le_of_ble_eq_true rfl) hc dL_law_935 (fun H locs hP hS => ?_)
  have hP : Pw G σ H := hP
  refine lv_icmp_eq (tgt := 1642) hx hb dL_law_938 (by decide) (fun _ => ?_) (fun h => absurd rfl h)
  refine W.widen (k := cells + 1) (n := slots + 6) (Nat.le_add_right _ _) (Nat.le_add_right _ _) ?_
  exact kk σ H locs ls hI hP hS hl
set_option maxRecDepth 100000 in
set_option maxHeartbeats 4000000 in
theorem law_c23 (C : Lc p l s m meth c G b L xs) (hI : Inv σ) (hP : Pw G σ H) (hS : va_S (AG G) s.heap H locs) (hi : i + 6 ≤ L) (hl : lv_has ls 8 (lv5 G b i)) (hR : cells + 1 ≤ room_1.cells ∧ slots + 6 ≤ room_1.slots) (kk : ∀ (σ1 : St) (H1 : Heap) (locs1 : List Loc) (ls1 : Array Slot), Inv σ1 → Pw G σ1 H1 → va_S (AG G) s.heap H1 locs1 → lv_has ls1 8 (lv5 G b i) → W p l e room_1 s m #[Value.ref b] below meth c H1 locs1 (cells + 1) (slots + 6) Q (F0 m 1642 ls1 [])) : W p l e room_1 s m #[Value.ref b] below meth c H locs cells slots Q (F0 m 943 ls []) := by
  have C0 := C
  obtain ⟨hx, hb, hml, hown, hts, hX, hbl, hlk, hr, hK, hXs, hgL, hG, hL, hfl⟩ := C
  have Z : CallFix p m c cL_law 8 s #[Value.ref b] wsL_law RL := ⟨hx, hb, hml, hown, hts⟩
  have hc : cells ≤ room_1.cells ∧ slots ≤ room_1.slots := ⟨by omega, by omega⟩
  obtain ⟨r, e1, e2⟩ := p_robin hI (xs (i + 1))
  refine lv_aload_n hx hb dL_law_943 rfl (lv_at hl 2 rfl) ?_
  refine law_arg C0 hS hi hl 1 (n := 1) (by decide) rfl rfl (by decide) dL_law_944 dL_law_945 dL_law_947 dL_law_948 dL_law_949 ?_
  refine k_Vv (As := [.int (xs (i + 1))]) (rest := []) Z hK hP hS (t_X8_robin l G hG (xs (i + 1)) σ _ e1) (cwV 1 hts gL_law_X8_robin rfl rfl rfl (by decide +kernel) ⟨Nat.le_of_ble_eq_true rfl, Nat.le_of_ble_eq_true rfl⟩) (at_4 rfl) rfl rfl hl.1 rfl (Nat.le_of_ble_eq_true rfl) hc dL_law_950 (fun H locs hP hS => ?_)
  have hP : Pw G σ H := hP
  refine lv_aload_n hx hb dL_law_953 rfl (lv_at hl 3 rfl) ?_
  refine law_arg C0 hS hi hl 1 (n := 1) (by decide) rfl rfl (by decide) dL_law_954 dL_law_955 dL_law_957 dL_law_958 dL_law_959 ?_
  refine k_Vv (As := [.int (xs (i + 1))]) (rest := [.int r]) Z hK hP hS (t_X9_robin l G hG (xs (i + 1)) σ _ e2) (cwV 1 hts gL_law_X9_robin rfl rfl rfl (by decide +kernel) ⟨Nat.le_of_ble_eq_true rfl, Nat.le_of_ble_eq_true rfl⟩) (at_5 rfl) rfl rfl hl.1 rfl (Nat.le_of_ble_eq_true rfl) hc dL_law_960 (fun H locs hP hS => ?_)
  have hP : Pw G σ H := hP
  refine lv_icmp_eq (tgt := 1642) hx hb dL_law_963 (by decide) (fun _ => ?_) (fun h => absurd rfl h)
  refine W.widen (k := cells + 1) (n := slots + 6) (Nat.le_add_right _ _) (Nat.le_add_right _ _) ?_
  exact kk σ H locs ls hI hP hS hl
set_option maxRecDepth 100000 in
set_option maxHeartbeats 4000000 in
theorem law_c24 (C : Lc p l s m meth c G b L xs) (hI : Inv σ) (hP : Pw G σ H) (hS : va_S (AG G) s.heap H locs) (hi : i + 6 ≤ L) (hl : lv_has ls 8 (lv5 G b i)) (hR : cells + 1 ≤ room_1.cells ∧ slots + 6 ≤ room_1.slots) (kk : ∀ (σ1 : St) (H1 : Heap) (locs1 : List Loc) (ls1 : Array Slot), Inv σ1 → Pw G σ1 H1 → va_S (AG G) s.heap H1 locs1 → lv_has ls1 8 (lv5 G b i) → W p l e room_1 s m #[Value.ref b] below meth c H1 locs1 (cells + 1) (slots + 6) Q (F0 m 1642 ls1 [])) : W p l e room_1 s m #[Value.ref b] below meth c H locs cells slots Q (F0 m 968 ls []) := by
  have C0 := C
  obtain ⟨hx, hb, hml, hown, hts, hX, hbl, hlk, hr, hK, hXs, hgL, hG, hL, hfl⟩ := C
  have Z : CallFix p m c cL_law 8 s #[Value.ref b] wsL_law RL := ⟨hx, hb, hml, hown, hts⟩
  have hc : cells ≤ room_1.cells ∧ slots ≤ room_1.slots := ⟨by omega, by omega⟩
  obtain ⟨r, e1, e2⟩ := p_two (σ := σ) (xs (i + 1)) (xs (i + 2))
  refine lv_aload_n hx hb dL_law_968 rfl (lv_at hl 2 rfl) ?_
  refine law_arg C0 hS hi hl 1 (n := 1) (by decide) rfl rfl (by decide) dL_law_969 dL_law_970 dL_law_972 dL_law_973 dL_law_974 ?_
  refine law_arg C0 hS hi hl 2 (n := 2) (by decide) rfl rfl (by decide) dL_law_975 dL_law_976 dL_law_978 dL_law_979 dL_law_980 ?_
  refine k_Vv (As := [.int (xs (i + 1)), .int (xs (i + 2))]) (rest := []) Z hK hP hS (t_X8_two l G hG (xs (i + 1)) (xs (i + 2)) σ _ e1) (cwV 2 hts gL_law_X8_two rfl rfl rfl (by decide +kernel) ⟨Nat.le_of_ble_eq_true rfl, Nat.le_of_ble_eq_true rfl⟩) (at_4 rfl) rfl rfl hl.1 rfl (Nat.le_of_ble_eq_true rfl) hc dL_law_981 (fun H locs hP hS => ?_)
  have hP : Pw G σ H := hP
  refine lv_aload_n hx hb dL_law_984 rfl (lv_at hl 3 rfl) ?_
  refine law_arg C0 hS hi hl 1 (n := 1) (by decide) rfl rfl (by decide) dL_law_985 dL_law_986 dL_law_988 dL_law_989 dL_law_990 ?_
  refine law_arg C0 hS hi hl 2 (n := 2) (by decide) rfl rfl (by decide) dL_law_991 dL_law_992 dL_law_994 dL_law_995 dL_law_996 ?_
  refine k_Vv (As := [.int (xs (i + 1)), .int (xs (i + 2))]) (rest := [.int r]) Z hK hP hS (t_X9_two l G hG (xs (i + 1)) (xs (i + 2)) σ _ e2) (cwV 2 hts gL_law_X9_two rfl rfl rfl (by decide +kernel) ⟨Nat.le_of_ble_eq_true rfl, Nat.le_of_ble_eq_true rfl⟩) (at_5 rfl) rfl rfl hl.1 rfl (Nat.le_of_ble_eq_true rfl) hc dL_law_997 (fun H locs hP hS => ?_)
  have hP : Pw G σ H := hP
  refine lv_icmp_eq (tgt := 1642) hx hb dL_law_1000 (by decide) (fun _ => ?_) (fun h => absurd rfl h)
  refine W.widen (k := cells + 1) (n := slots + 6) (Nat.le_add_right _ _) (Nat.le_add_right _ _) ?_
  exact kk σ H locs ls hI hP hS hl
set_option maxRecDepth 100000 in
set_option maxHeartbeats 4000000 in
theorem law_c25 (C : Lc p l s m meth c G b L xs) (hI : Inv σ) (hP : Pw G σ H) (hS : va_S (AG G) s.heap H locs) (hi : i + 6 ≤ L) (hl : lv_has ls 8 (lv5 G b i)) (hR : cells + 1 ≤ room_1.cells ∧ slots + 6 ≤ room_1.slots) (kk : ∀ (σ1 : St) (H1 : Heap) (locs1 : List Loc) (ls1 : Array Slot), Inv σ1 → Pw G σ1 H1 → va_S (AG G) s.heap H1 locs1 → lv_has ls1 8 (lv5 G b i) → W p l e room_1 s m #[Value.ref b] below meth c H1 locs1 (cells + 1) (slots + 6) Q (F0 m 1642 ls1 [])) : W p l e room_1 s m #[Value.ref b] below meth c H locs cells slots Q (F0 m 1005 ls []) := by
  have C0 := C
  obtain ⟨hx, hb, hml, hown, hts, hX, hbl, hlk, hr, hK, hXs, hgL, hG, hL, hfl⟩ := C
  have Z : CallFix p m c cL_law 8 s #[Value.ref b] wsL_law RL := ⟨hx, hb, hml, hown, hts⟩
  have hc : cells ≤ room_1.cells ∧ slots ≤ room_1.slots := ⟨by omega, by omega⟩
  obtain ⟨r, e1, e2⟩ := p_chance σ (xs (i + 1)) (xs (i + 2)) (xs (i + 3)) (xs (i + 4))
  refine lv_aload_n hx hb dL_law_1005 rfl (lv_at hl 2 rfl) ?_
  refine law_arg C0 hS hi hl 1 (n := 1) (by decide) rfl rfl (by decide) dL_law_1006 dL_law_1007 dL_law_1009 dL_law_1010 dL_law_1011 ?_
  refine law_arg C0 hS hi hl 2 (n := 2) (by decide) rfl rfl (by decide) dL_law_1012 dL_law_1013 dL_law_1015 dL_law_1016 dL_law_1017 ?_
  refine law_arg C0 hS hi hl 3 (n := 3) (by decide) rfl rfl (by decide) dL_law_1018 dL_law_1019 dL_law_1021 dL_law_1022 dL_law_1023 ?_
  refine law_arg C0 hS hi hl 4 (n := 4) (by decide) rfl rfl (by decide) dL_law_1024 dL_law_1025 dL_law_1027 dL_law_1028 dL_law_1029 ?_
  refine k_Vv (As := [.int (xs (i + 1)), .int (xs (i + 2)), .int (xs (i + 3)), .int (xs (i + 4))]) (rest := []) Z hK hP hS (t_X8_chance l G hG (xs (i + 1)) (xs (i + 2)) (xs (i + 3)) (xs (i + 4)) σ _ e1) (cwV 4 hts gL_law_X8_chance rfl rfl rfl (by decide +kernel) ⟨Nat.le_of_ble_eq_true rfl, Nat.le_of_ble_eq_true rfl⟩) (at_4 rfl) rfl rfl hl.1 rfl (Nat.le_of_ble_eq_true rfl) hc dL_law_1030 (fun H locs hP hS => ?_)
  have hP : Pw G σ H := hP
  refine lv_aload_n hx hb dL_law_1033 rfl (lv_at hl 3 rfl) ?_
  refine law_arg C0 hS hi hl 1 (n := 1) (by decide) rfl rfl (by decide) dL_law_1034 dL_law_1035 dL_law_1037 dL_law_1038 dL_law_1039 ?_
  refine law_arg C0 hS hi hl 2 (n := 2) (by decide) rfl rfl (by decide) dL_law_1040 dL_law_1041 dL_law_1043 dL_law_1044 dL_law_1045 ?_
  refine law_arg C0 hS hi hl 3 (n := 3) (by decide) rfl rfl (by decide) dL_law_1046 dL_law_1047 dL_law_1049 dL_law_1050 dL_law_1051 ?_
  refine law_arg C0 hS hi hl 4 (n := 4) (by decide) rfl rfl (by decide) dL_law_1052 dL_law_1053 dL_law_1055 dL_law_1056 dL_law_1057 ?_
  refine k_Vv (As := [.int (xs (i + 1)), .int (xs (i + 2)), .int (xs (i + 3)), .int (xs (i + 4))]) (rest := [.long r]) Z hK hP hS (t_X9_chance l G hG (xs (i + 1)) (xs (i + 2)) (xs (i + 3)) (xs (i + 4)) σ _ e2) (cwV 4 hts gL_law_X9_chance rfl rfl rfl (by decide +kernel) ⟨Nat.le_of_ble_eq_true rfl, Nat.le_of_ble_eq_true rfl⟩) (at_5 rfl) rfl rfl hl.1 rfl (Nat.le_of_ble_eq_true rfl) hc dL_law_1058 (fun H locs hP hS => ?_)
  have hP : Pw G σ H := hP
  refine W.lcmp hx hb dL_law_1061 ?_
  refine lv_if_eq (tgt := 1642) hx hb dL_law_1062 (by decide) (fun _ => ?_) (fun h => absurd ((lg_cmp_eq r r).mpr rfl) h)
  refine W.widen (k := cells + 1) (n := slots + 6) (Nat.le_add_right _ _) (Nat.le_add_right _ _) ?_
  exact kk σ H locs ls hI hP hS hl
set_option maxRecDepth 100000 in
set_option maxHeartbeats 4000000 in
theorem law_c26 (C : Lc p l s m meth c G b L xs) (hI : Inv σ) (hP : Pw G σ H) (hS : va_S (AG G) s.heap H locs) (hi : i + 6 ≤ L) (hl : lv_has ls 8 (lv5 G b i)) (hR : cells + 1 ≤ room_1.cells ∧ slots + 6 ≤ room_1.slots) (kk : ∀ (σ1 : St) (H1 : Heap) (locs1 : List Loc) (ls1 : Array Slot), Inv σ1 → Pw G σ1 H1 → va_S (AG G) s.heap H1 locs1 → lv_has ls1 8 (lv5 G b i) → W p l e room_1 s m #[Value.ref b] below meth c H1 locs1 (cells + 1) (slots + 6) Q (F0 m 1642 ls1 [])) : W p l e room_1 s m #[Value.ref b] below meth c H locs cells slots Q (F0 m 1067 ls []) := by
  have C0 := C
  obtain ⟨hx, hb, hml, hown, hts, hX, hbl, hlk, hr, hK, hXs, hgL, hG, hL, hfl⟩ := C
  have Z : CallFix p m c cL_law 8 s #[Value.ref b] wsL_law RL := ⟨hx, hb, hml, hown, hts⟩
  have hc : cells ≤ room_1.cells ∧ slots ≤ room_1.slots := ⟨by omega, by omega⟩
  obtain ⟨r, e1, e2⟩ := p_mean hI (xs (i + 1))
  refine lv_aload_n hx hb dL_law_1067 rfl (lv_at hl 2 rfl) ?_
  refine law_arg C0 hS hi hl 1 (n := 1) (by decide) rfl rfl (by decide) dL_law_1068 dL_law_1069 dL_law_1071 dL_law_1072 dL_law_1073 ?_
  refine k_Vv (As := [.int (xs (i + 1))]) (rest := []) Z hK hP hS (t_X8_mean l G hG (xs (i + 1)) σ _ e1) (cwV 1 hts gL_law_X8_mean rfl rfl rfl (by decide +kernel) ⟨Nat.le_of_ble_eq_true rfl, Nat.le_of_ble_eq_true rfl⟩) (at_4 rfl) rfl rfl hl.1 rfl (Nat.le_of_ble_eq_true rfl) hc dL_law_1074 (fun H locs hP hS => ?_)
  have hP : Pw G σ H := hP
  refine lv_aload_n hx hb dL_law_1077 rfl (lv_at hl 3 rfl) ?_
  refine law_arg C0 hS hi hl 1 (n := 1) (by decide) rfl rfl (by decide) dL_law_1078 dL_law_1079 dL_law_1081 dL_law_1082 dL_law_1083 ?_
  refine k_Vv (As := [.int (xs (i + 1))]) (rest := [.long r]) Z hK hP hS (t_X9_mean l G hG (xs (i + 1)) σ _ e2) (cwV 1 hts gL_law_X9_mean rfl rfl rfl (by decide +kernel) ⟨Nat.le_of_ble_eq_true rfl, Nat.le_of_ble_eq_true rfl⟩) (at_5 rfl) rfl rfl hl.1 rfl (Nat.le_of_ble_eq_true rfl) hc dL_law_1084 (fun H locs hP hS => ?_)
  have hP : Pw G σ H := hP
  refine W.lcmp hx hb dL_law_1087 ?_
  refine lv_if_eq (tgt := 1642) hx hb dL_law_1088 (by decide) (fun _ => ?_) (fun h => absurd ((lg_cmp_eq r r).mpr rfl) h)
  refine W.widen (k := cells + 1) (n := slots + 6) (Nat.le_add_right _ _) (Nat.le_add_right _ _) ?_
  exact kk σ H locs ls hI hP hS hl
set_option maxRecDepth 100000 in
set_option maxHeartbeats 4000000 in
theorem law_c27 (C : Lc p l s m meth c G b L xs) (hI : Inv σ) (hP : Pw G σ H) (hS : va_S (AG G) s.heap H locs) (hi : i + 6 ≤ L) (hl : lv_has ls 8 (lv5 G b i)) (hR : cells + 1 ≤ room_1.cells ∧ slots + 6 ≤ room_1.slots) (kk : ∀ (σ1 : St) (H1 : Heap) (locs1 : List Loc) (ls1 : Array Slot), Inv σ1 → Pw G σ1 H1 → va_S (AG G) s.heap H1 locs1 → lv_has ls1 8 (lv5 G b i) → W p l e room_1 s m #[Value.ref b] below meth c H1 locs1 (cells + 1) (slots + 6) Q (F0 m 1642 ls1 [])) : W p l e room_1 s m #[Value.ref b] below meth c H locs cells slots Q (F0 m 1093 ls []) := by
  have C0 := C
  obtain ⟨hx, hb, hml, hown, hts, hX, hbl, hlk, hr, hK, hXs, hgL, hG, hL, hfl⟩ := C
  have Z : CallFix p m c cL_law 8 s #[Value.ref b] wsL_law RL := ⟨hx, hb, hml, hown, hts⟩
  have hc : cells ≤ room_1.cells ∧ slots ≤ room_1.slots := ⟨by omega, by omega⟩
  obtain ⟨r, σ1, e1, e2, hI⟩ := p_gap hI (xs (i + 1))
  refine lv_aload_n hx hb dL_law_1093 rfl (lv_at hl 2 rfl) ?_
  refine law_arg C0 hS hi hl 1 (n := 1) (by decide) rfl rfl (by decide) dL_law_1094 dL_law_1095 dL_law_1097 dL_law_1098 dL_law_1099 ?_
  refine k_Vv (As := [.int (xs (i + 1))]) (rest := []) Z hK hP hS (t_X8_gap l G hG (xs (i + 1)) σ _ e1) (cwV 1 hts gL_law_X8_gap rfl rfl rfl (by decide +kernel) ⟨Nat.le_of_ble_eq_true rfl, Nat.le_of_ble_eq_true rfl⟩) (at_4 rfl) rfl rfl hl.1 rfl (Nat.le_of_ble_eq_true rfl) hc dL_law_1100 (fun H locs hP hS => ?_)
  have hP : Pw G σ1 H := hP
  refine lv_aload_n hx hb dL_law_1103 rfl (lv_at hl 3 rfl) ?_
  refine law_arg C0 hS hi hl 1 (n := 1) (by decide) rfl rfl (by decide) dL_law_1104 dL_law_1105 dL_law_1107 dL_law_1108 dL_law_1109 ?_
  refine k_Vv (As := [.int (xs (i + 1))]) (rest := [.int r]) Z hK hP hS (t_X9_gap l G hG (xs (i + 1)) σ1 _ e2) (cwV 1 hts gL_law_X9_gap rfl rfl rfl (by decide +kernel) ⟨Nat.le_of_ble_eq_true rfl, Nat.le_of_ble_eq_true rfl⟩) (at_5 rfl) rfl rfl hl.1 rfl (Nat.le_of_ble_eq_true rfl) hc dL_law_1110 (fun H locs hP hS => ?_)
  have hP : Pw G σ1 H := hP
  refine lv_icmp_eq (tgt := 1642) hx hb dL_law_1113 (by decide) (fun _ => ?_) (fun h => absurd rfl h)
  refine W.widen (k := cells + 1) (n := slots + 6) (Nat.le_add_right _ _) (Nat.le_add_right _ _) ?_
  exact kk σ1 H locs ls hI hP hS hl
end LAW
