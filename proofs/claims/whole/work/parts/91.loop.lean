theorem law_lt {L i : Nat} (hL : L ≤ 3072) (hi : i ≤ L) (h : L < i + 6) : Int32.ofNat L - nI 6 < nI i := by
  show nI L - nI 6 < nI i
  rcases Nat.lt_or_ge L 6 with q | q
  · exact Int32.lt_of_lt_of_le (pk_sneg (by decide) q) (nI_pos' (by omega))
  · rw [pk_sub q]
    exact nI_lt (by omega) (by omega)
section LAW
variable {p : Program} {l : Launch} {e : Env} {R : Room} {s : State} {m : MethodId} {below : List Frame} {meth : Method} {c : Code} {H : Heap} {locs : List Loc} {cells slots : Nat} {Q : State → Prop}
variable {G : GT} {σ : St} {b L i pc : Nat} {xs : Nat → Int32} {ls : Array Slot} {rest : List Value}
theorem law_end (C : Lc p l s m meth c G b L xs) (hS : va_S (AG G) s.heap H locs) (hc : cells ≤ 601024) (hs : slots ≤ 7293034) : W p l e room_1 s m #[Value.ref b] below meth c H locs cells slots (lw_Z below #[Value.ref b] s) (F0 m 1648 ls []) := by
  obtain ⟨hx, hb, hml, hown, hts, hX, hbl, hlk, hr, hK, hXs, hgL, hG, hL, hfl⟩ := C
  refine va_forget (fun q hq => ?_) ?_
  · have := hS.2.2 q hq
    have : gL G ≤ q.base := this
    omega
  · refine lv_iconst (v := 1) hx hb dL_law_1648 (by decide) ?_
    exact W.widen hc hs (lw_ret hx hb hr hlk dL_law_1649)
def lawAt : List Nat := [224, 249, 286, 311, 372, 409, 434, 471, 496, 509, 546, 559, 572, 609, 622, 659, 696, 721, 746, 783, 820, 857, 906, 943, 968, 1005, 1067, 1093, 1118, 1131, 1156, 1193, 1242, 1255, 1268, 1293, 1354, 1403, 1452, 1519, 1592, 1617]
theorem law_tab : ∀ j : Nat, j < 42 → (#[184, 209, 246, 271, 332, 369, 394, 431, 456, 469, 506, 519, 532, 569, 582, 619, 656, 681, 706, 743, 780, 817, 866, 903, 928, 965, 1027, 1053, 1078, 1091, 1116, 1153, 1202, 1215, 1228, 1253, 1314, 1363, 1412, 1479, 1552, 1577] : Array Int)[((nI j).toInt - 0).toNat]? = some (((lawAt.getD j 0 : Nat) : Int) - 40) := by decide +kernel
theorem law_sw (C : Lc p l s m meth c G b L xs) (hI : Inv σ) (hP : Pw G σ H) (hS : va_S (AG G) s.heap H locs) (hi : i + 6 ≤ L) (hl : lv_has ls 8 (lv5 G b i)) (hR : cells + 1 ≤ room_1.cells ∧ slots + 6 ≤ room_1.slots) (kk : ∀ (σ1 : St) (H1 : Heap) (locs1 : List Loc) (ls1 : Array Slot), Inv σ1 → Pw G σ1 H1 → va_S (AG G) s.heap H1 locs1 → lv_has ls1 8 (lv5 G b i) → W p l e room_1 s m #[Value.ref b] below meth c H1 locs1 (cells + 1) (slots + 6) Q (F0 m 1642 ls1 [])) (j : Nat) (hj : j < 42) : W p l e room_1 s m #[Value.ref b] below meth c H locs cells slots Q (F0 m (lawAt.getD j 0) ls []) := by
  match j, hj with
  | 0, _ => exact law_c0 C hI hP hS hi hl hR kk
  | 1, _ => exact law_c1 C hI hP hS hi hl hR kk
  | 2, _ => exact law_c2 C hI hP hS hi hl hR kk
  | 3, _ => exact law_c3 C hI hP hS hi hl hR kk
  | 4, _ => exact law_c4 C hI hP hS hi hl hR kk
  | 5, _ => exact law_c5 C hI hP hS hi hl hR kk
  | 6, _ => exact law_c6 C hI hP hS hi hl hR kk
  | 7, _ => exact law_c7 C hI hP hS hi hl hR kk
  | 8, _ => exact law_c8 C hI hP hS hi hl hR kk
  | 9, _ => exact law_c9 C hI hP hS hi hl hR kk
  | 10, _ => exact law_c10 C hI hP hS hi hl hR kk
  | 11, _ => exact law_c11 C hI hP hS hi hl hR kk
  | 12, _ => exact law_c12 C hI hP hS hi hl hR kk
  | 13, _ => exact law_c13 C hI hP hS hi hl hR kk
  | 14, _ => exact law_c14 C hI hP hS hi hl hR kk
  | 15, _ => exact law_c15 C hI hP hS hi hl hR kk
  | 16, _ => exact law_c16 C hI hP hS hi hl hR kk
  | 17, _ => exact law_c17 C hI hP hS hi hl hR kk
  | 18, _ => exact law_c18 C hI hP hS hi hl hR kk
  | 19, _ => exact law_c19 C hI hP hS hi hl hR kk
  | 20, _ => exact law_c20 C hI hP hS hi hl hR kk
  | 21, _ => exact law_c21 C hI hP hS hi hl hR kk
  | 22, _ => exact law_c22 C hI hP hS hi hl hR kk
  | 23, _ => exact law_c23 C hI hP hS hi hl hR kk
  | 24, _ => exact law_c24 C hI hP hS hi hl hR kk
  | 25, _ => exact law_c25 C hI hP hS hi hl hR kk
  | 26, _ => exact law_c26 C hI hP hS hi hl hR kk
  | 27, _ => exact law_c27 C hI hP hS hi hl hR kk
  | 28, _ => exact law_c28 C hI hP hS hi hl hR kk
  | 29, _ => exact law_c29 C hI hP hS hi hl hR kk
  | 30, _ => exact law_c30 C hI hP hS hi hl hR kk
  | 31, _ => exact law_c31 C hI hP hS hi hl hR kk
  | 32, _ => exact law_c32 C hI hP hS hi hl hR kk
  | 33, _ => exact law_c33 C hI hP hS hi hl hR kk
  | 34, _ => exact law_c34 C hI hP hS hi hl hR kk
  | 35, _ => exact law_c35 C hI hP hS hi hl hR kk
  | 36, _ => exact law_c36 C hI hP hS hi hl hR kk
  | 37, _ => exact law_c37 C hI hP hS hi hl hR kk
  | 38, _ => exact law_c38 C hI hP hS hi hl hR kk
  | 39, _ => exact law_c39 C hI hP hS hi hl hR kk
  | 40, _ => exact law_c40 C hI hP hS hi hl hR kk
  | 41, _ => exact law_c41 C hI hP hS hi hl hR kk
  | n + 42, h => exact absurd h (by omega)
set_option maxRecDepth 100000 in
theorem law_loop (C : Lc p l s m meth c G b L xs) : ∀ (k i : Nat) (σ : St) (H : Heap) (locs : List Loc) (ls : Array Slot) (cells slots : Nat), L < i + 6 * k + 6 → i ≤ L → cells + k ≤ 601024 → slots + 6 * k ≤ 7293034 → Inv σ → Pw G σ H → va_S (AG G) s.heap H locs → lv_has ls 8 (lv5 G b i) → W p l e room_1 s m #[Value.ref b] below meth c H locs cells slots (lw_Z below #[Value.ref b] s) (F0 m 23 ls []) := by
  have C0 := C
  obtain ⟨hx, hb, hml, hown, hts, hX, hbl, hlk, hr, hK, hXs, hgL, hG, hL, hfl⟩ := C
  have hbA : ¬ AG G b := show ¬ gL G ≤ b by omega
  intro k
  induction k with
  | zero =>
    intro i σ H locs ls cells slots hk hi hc hs hI hP hS hl
    refine lv_iload hx hb dL_law_23 (lv_at hl 0 rfl) ?_
    refine lv_aload_n hx hb dL_law_25 rfl (lv_at hl 1 rfl) ?_
    refine va_slen hx hb hX hbl hbA hS dL_law_26 ?_
    refine lv_bipush (v := nI 6) hx hb dL_law_27 (by decide) ?_
    refine lv_isub hx hb dL_law_29 ?_
    refine lv_icmp_gt (tgt := 1648) hx hb dL_law_30 (by decide) (fun _ => ?_) (fun h => absurd (law_lt hL hi (by omega)) h)
    exact law_end C0 hS hc hs
  | succ k ih =>
    intro i σ H locs ls cells slots hk hi hc hs hI hP hS hl
    refine lv_iload hx hb dL_law_23 (lv_at hl 0 rfl) ?_
    refine lv_aload_n hx hb dL_law_25 rfl (lv_at hl 1 rfl) ?_
    refine va_slen hx hb hX hbl hbA hS dL_law_26 ?_
    refine lv_bipush (v := nI 6) hx hb dL_law_27 (by decide) ?_
    refine lv_isub hx hb dL_law_29 ?_
    refine lv_icmp_gt (tgt := 1648) hx hb dL_law_30 (by decide) (fun _ => law_end C0 hS (by omega) (by omega)) (fun h => ?_)
    have h6 : i + 6 ≤ L := by
      rcases Nat.lt_or_ge L (i + 6) with q | q
      · exact absurd (law_lt hL hi q) h
      · exact q
    refine lv_aload_n hx hb dL_law_33 rfl (lv_at hl 1 rfl) ?_
    refine lv_iload hx hb dL_law_34 (lv_at hl 0 rfl) ?_
    refine va_sld hx hb hX hbl hbA hS (vp_in_nI (n := i) (by omega) (by omega)) dL_law_36 ?_
    refine lv_bipush (v := 63) hx hb dL_law_37 (by decide) ?_
    refine lv_iand hx hb dL_law_39 ?_
    obtain ⟨j, hj, ej⟩ := pk_andE (xs (nI i).toNatClampNeg) (m := 63) 6 (by decide)
    rw [ej]
    have go : ∀ (σ1 : St) (H1 : Heap) (locs1 : List Loc) (ls1 : Array Slot), Inv σ1 → Pw G σ1 H1 → va_S (AG G) s.heap H1 locs1 → lv_has ls1 8 (lv5 G b i) → W p l e room_1 s m #[Value.ref b] below meth c H1 locs1 (cells + 1) (slots + 6) (lw_Z below #[Value.ref b] s) (F0 m 1642 ls1 []) := by
      intro σ1 H1 locs1 ls1 hI hP hS hl
      refine lv_iinc (k := 0) (lv' := lv5 G b (i + 6)) (v := nI (i + 6)) hx hb dL_law_1642 hl rfl (show nI i + Int32.ofInt 6 = nI (i + 6) from nI_add i 6) (by decide) rfl (fun ls hl => ?_)
      refine lv_goto (tgt := 23) hx hb dL_law_1645 (by decide) ?_
      exact ih (i + 6) σ1 H1 locs1 ls (cells + 1) (slots + 6) (by omega) h6 (by omega) (by omega) hI hP hS hl
    have tj : (nI j).toInt = (j : Int) := nI_toInt (by omega)
    by_cases hj42 : j < 42
    · refine lv_tableIn (tgt := lawAt.getD j 0) hx hb dL_law_40 (by rw [tj]; omega) (by rw [tj]; omega) (law_tab j hj42) (by omega) ?_
      exact law_sw C0 hI hP hS h6 hl ⟨show cells + 1 ≤ 601024 by omega, show slots + 6 ≤ 7293034 by omega⟩ go j hj42
    · refine lv_tableOut (tgt := 1642) hx hb dL_law_40 (Or.inr (by rw [tj]; omega)) (by decide) ?_
      exact W.widen (k := cells + 1) (n := slots + 6) (Nat.le_add_right _ _) (Nat.le_add_right _ _) (go σ H locs ls hI hP hS hl)
end LAW
