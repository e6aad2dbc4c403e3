section LAW
variable {p : Program} {l : Launch} {e : Env} {R : Room} {s : State} {m : MethodId} {below : List Frame} {meth : Method} {c : Code} {H : Heap} {locs : List Loc} {cells slots : Nat} {Q : State → Prop}
variable {G : GT} {σ : St} {b L i pc : Nat} {xs : Nat → Int32} {ls : Array Slot} {rest : List Value}
set_option maxRecDepth 100000 in
set_option maxHeartbeats 4000000 in
theorem law_c28 (C : Lc p l s m meth c G b L xs) (hI : Inv σ) (hP : Pw G σ H) (hS : va_S (AG G) s.heap H locs) (hi : i + 6 ≤ L) (hl : lv_has ls 8 (lv5 G b i)) (hR : cells + 1 ≤ room_1.cells ∧ slots + 6 ≤ room_1.slots) (kk : ∀ (σ1 : St) (H1 : Heap) (locs1 : List Loc) (ls1 : Array Slot), Inv σ1 → Pw G σ1 H1 → va_S (AG G) s.heap H1 locs1 → lv_has ls1 8 (lv5 G b i) → W p l e room_1 s m #[Value.ref b] below meth c H1 locs1 (cells + 1) (slots + 6) Q (F0 m 1642 ls1 [])) : W p l e room_1 s m #[Value.ref b] below meth c H locs cells slots Q (F0 m 1118 ls []) := by
  have C0 := C
  obtain ⟨hx, hb, hml, hown, hts, hX, hbl, hlk, hr, hK, hXs, hgL, hG, hL, hfl⟩ := C
  have Z : CallFix p m c cL_law 8 s #[Value.ref b] wsL_law RL := ⟨hx, hb, hml, hown, hts⟩
  have hc : cells ≤ room_1.cells ∧ slots ≤ room_1.slots := ⟨by omega, by omega⟩
  obtain ⟨r, e1, e2⟩ := p_quarrel hI 
  refine lv_aload_n hx hb dL_law_1118 rfl (lv_at hl 2 rfl) ?_
  refine k_Vv (As := []) (rest := []) Z hK hP hS (t_X8_quarrel l G hG  σ _ e1) (cwV 0 hts gL_law_X8_quarrel rfl rfl rfl (by decide +kernel) ⟨Nat.le_of_ble_eq_true rfl, Nat.le_of_ble_eq_true rfl⟩) (at_4 rfl) rfl rfl hl.1 rfl (Nat.le_of_ble_eq_true rfl) hc dL_law_1119 (fun H locs hP hS => ?_)
  have hP : Pw G σ H := hP
  refine lv_aload_n hx hb dL_law_1122 rfl (lv_at hl 3 rfl) ?_
  refine k_Vv (As := []) (rest := [.int r]) Z hK hP hS (t_X9_quarrel l G hG  σ _ e2) (cwV 0 hts gL_law_X9_quarrel rfl rfl rfl (by decide +kernel) ⟨Nat.le_of_ble_eq_true rfl, Nat.le_of_ble_eq_true rfl⟩) (at_5 rfl) rfl rfl hl.1 rfl (Nat.le_of_ble_eq_true rfl) hc dL_law_1123 (fun H locs hP hS => ?_)
  have hP : Pw G σ H := hP
  refine lv_icmp_eq (tgt := 1642) hx hb dL_law_1126 (by decide) (fun _ => ?_) (fun h => absurd rfl h)
  refine W.widen (k := cells + 1) (n := slots + 6) (Nat.le_add_right _ _) (Nat.le_add_right _ _) ?_
  exact kk σ H locs ls hI hP hS hl
set_option maxRecDepth 100000 in
set_option maxHeartbeats 4000000 in
theorem law_c29 (C : Lc p l s m meth c G b L xs) (hI : Inv σ) (hP : Pw G σ H) (hS : va_S (AG G) s.heap H locs) (hi : i + 6 ≤ L) (hl : lv_has ls 8 (lv5 G b i)) (hR : cells + 1 ≤ room_1.cells ∧ slots + 6 ≤ room_1.slots) (kk : ∀ (σ1 : St) (H1 : Heap) (locs1 : List Loc) (ls1 : Array Slot), Inv σ1 → Pw G σ1 H1 → va_S (AG G) s.heap H1 locs1 → lv_has ls1 8 (lv5 G b i) → W p l e room_1 s m #[Value.ref b] below meth c H1 locs1 (cells + 1) (slots + 6) Q (F0 m 1642 ls1 [])) : W p l e room_1 s m #[Value.ref b] below meth c H locs cells slots Q (F0 m 1131 ls []) := by
  have C0 := C
  obtain ⟨hx, hb, hml, hown, hts, hX, hbl, hlk, hr, hK, hXs, hgL, hG, hL, hfl⟩ := C
  have Z : CallFix p m c cL_law 8 s #[Value.ref b] wsL_law RL := ⟨hx, hb, hml, hown, hts⟩
  have hc : cells ≤ room_1.cells ∧ slots ≤ room_1.slots := ⟨by omega, by omega⟩
  obtain ⟨r, σ1, σ2, e1, e2, hI⟩ := p_forged hI (xs (i + 1))
  refine lv_aload_n hx hb dL_law_1131 rfl (lv_at hl 2 rfl) ?_
  refine law_arg C0 hS hi hl 1 (n := 1) (by decide) rfl rfl (by decide) dL_law_1132 dL_law_1133 dL_law_1135 dL_law_1136 dL_law_1137 ?_
  refine k_Vv (As := [.int (xs (i + 1))]) (rest := []) Z hK hP hS (t_X8_forged l G hG (xs (i + 1)) σ _ e1) (cwV 1 hts gL_law_X8_forged rfl rfl rfl (by decide +kernel) ⟨Nat.le_of_ble_eq_true rfl, Nat.le_of_ble_eq_true rfl⟩) (at_4 rfl) rfl rfl hl.1 rfl (Nat.le_of_ble_eq_true rfl) hc dL_law_1138 (fun H locs hP hS => ?_)
  have hP : Pw G σ1 H := hP
  refine lv_aload_n hx hb dL_law_1141 rfl (lv_at hl 3 rfl) ?_
  refine law_arg C0 hS hi hl 1 (n := 1) (by decide) rfl rfl (by decide) dL_law_1142 dL_law_1143 dL_law_1145 dL_law_1146 dL_law_1147 ?_
  refine k_Vv (As := [.int (xs (i + 1))]) (rest := [.int r]) Z hK hP hS (t_X9_forged l G hG (xs (i + 1)) σ1 _ e2) (cwV 1 hts gL_law_X9_forged rfl rfl rfl (by decide +kernel) ⟨Nat.le_of_ble_eq_true rfl, Nat.le_of_ble_eq_true rfl⟩) (at_5 rfl) rfl rfl hl.1 rfl (Nat.le_of_ble_eq_true rfl) hc dL_law_1148 (fun H locs hP hS => ?_)
  have hP : Pw G σ2 H := hP
  refine lv_icmp_eq (tgt := 1642) hx hb dL_law_1151 (by decide) (fun _ => ?_) (fun h => absurd rfl h)
  refine W.widen (k := cells + 1) (n := slots + 6) (Nat.le_add_right _ _) (Nat.le_add_right _ _) ?_
  exact kk σ2 H locs ls hI hP hS hl
set_option maxRecDepth 100000 in
set_option maxHeartbeats 4000000 in
theorem law_c30 (C : Lc p l s m meth c G b L xs) (hI : Inv σ) (hP : Pw G σ H) (hS : va_S (AG G) s.heap H locs) (hi : i + 6 ≤ L) (hl : lv_has ls 8 (lv5 G b i)) (hR : cells + 1 ≤ room_1.cells ∧ slots + 6 ≤ room_1.slots) (kk : ∀ (σ1 : St) (H1 : Heap) (locs1 : List Loc) (ls1 : Array Slot), Inv σ1 → Pw G σ1 H1 → va_S (AG G) s.heap H1 locs1 → lv_has ls1 8 (lv5 G b i) → W p l e room_1 s m #[Value.ref b] below meth c H1 locs1 (cells + 1) (slots + 6) Q (F0 m 1642 ls1 [])) : W p l e room_1 s m #[Value.ref b] below meth c H locs cells slots Q (F0 m 1156 ls []) := by
  have C0 := C
  obtain ⟨hx, hb, hml, hown, hts, hX, hbl, hlk, hr, hK, hXs, hgL, hG, hL, hfl⟩ := C
  have Z : CallFix p m c cL_law 8 s #[Value.ref b] wsL_law RL := ⟨hx, hb, hml, hown, hts⟩
  have hc : cells ≤ room_1.cells ∧ slots ≤ room_1.slots := ⟨by omega, by omega⟩
  obtain ⟨r, σ2, e1, e2, hI⟩ := p_judge hI (xs (i + 1)) (xs (i + 2))
  refine lv_aload_n hx hb dL_law_1156 rfl (lv_at hl 2 rfl) ?_
  refine law_arg C0 hS hi hl 1 (n := 1) (by decide) rfl rfl (by decide) dL_law_1157 dL_law_1158 dL_law_1160 dL_law_1161 dL_law_1162 ?_
  refine law_arg C0 hS hi hl 2 (n := 2) (by decide) rfl rfl (by decide) dL_law_1163 dL_law_1164 dL_law_1166 dL_law_1167 dL_law_1168 ?_
  refine k_Vv (As := [.int (xs (i + 1)), .int (xs (i + 2))]) (rest := []) Z hK hP hS (t_X8_judge l G hG (xs (i + 1)) (xs (i + 2)) σ _ e1) (cwV 2 hts gL_law_X8_judge rfl rfl rfl (by decide +kernel) ⟨Nat.le_of_ble_eq_true rfl, Nat.le_of_ble_eq_true rfl⟩) (at_4 rfl) rfl rfl hl.1 rfl (Nat.le_of_ble_eq_true rfl) hc dL_law_1169 (fun H locs hP hS => ?_)
  have hP : Pw G σ H := hP
  refine lv_aload_n hx hb dL_law_1172 rfl (lv_at hl 3 rfl) ?_
  refine law_arg C0 hS hi hl 1 (n := 1) (by decide) rfl rfl (by decide) dL_law_1173 dL_law_1174 dL_law_1176 dL_law_1177 dL_law_1178 ?_
  refine law_arg C0 hS hi hl 2 (n := 2) (by decide) rfl rfl (by decide) dL_law_1179 dL_law_1180 dL_law_1182 dL_law_1183 dL_law_1184 ?_
  refine k_Vv (As := [.int (xs (i + 1)), .int (xs (i + 2))]) (rest := [.int r]) Z hK hP hS (t_X9_judge l G hG (xs (i + 1)) (xs (i + 2)) σ _ e2) (cwV 2 hts gL_law_X9_judge rfl rfl rfl (by decide +kernel) ⟨Nat.le_of_ble_eq_true rfl, Nat.le_of_ble_eq_true rfl⟩) (at_5 rfl) rfl rfl hl.1 rfl (Nat.le_of_ble_eq_true rfl) hc dL_law_1185 (fun H locs hP hS => ?_)
  have hP : Pw G σ2 H := hP
  refine lv_icmp_eq (tgt := 1642) hx hb dL_law_1188 (by decide) (fun _ => ?_) (fun h => absurd rfl h)
  refine W.widen (k := cells + 1) (n := slots + 6) (Nat.le_add_right _ _) (Nat.le_add_right _ _) ?_
  exact kk σ2 H locs ls hI hP hS hl
set_option maxRecDepth 100000 in
set_option maxHeartbeats 4000000 in
theorem law_c31 (C : Lc p l s m meth c G b L xs) (hI : Inv σ) (hP : Pw G σ H) (hS : va_S (AG G) s.heap H locs) (hi : i + 6 ≤ L) (hl : lv_has ls 8 (lv5 G b i)) (hR : cells + 1 ≤ room_1.cells ∧ slots + 6 ≤ room_1.slots) (kk : ∀ (σ1 : St) (H1 : Heap) (locs1 : List Loc) (ls1 : Array Slot), Inv σ1 → Pw G σ1 H1 → va_S (AG G) s.heap H1 locs1 → lv_has ls1 8 (lv5 G b i) → W p l e room_1 s m #[Value.ref b] below meth c H1 locs1 (cells + 1) (slots + 6) Q (F0 m 1642 ls1 [])) : W p l e room_1 s m #[Value.ref b] below meth c H locs cells slots Q (F0 m 1193 ls []) := by
  have C0 := C
  obtain ⟨hx, hb, hml, hown, hts, hX, hbl, hlk, hr, hK, hXs, hgL, hG, hL, hfl⟩ := C
  have Z : CallFix p m c cL_law 8 s #[Value.ref b] wsL_law RL := ⟨hx, hb, hml, hown, hts⟩
  have hc : cells ≤ room_1.cells ∧ slots ≤ room_1.slots := ⟨by omega, by omega⟩
  obtain ⟨r, σ1, σ2, e1, e2, hI⟩ := p_years hI (xs (i + 1)) (xs (i + 2)) (xs (i + 3))
  refine lv_aload_n hx hb dL_law_1193 rfl (lv_at hl 2 rfl) ?_
  refine law_arg C0 hS hi hl 1 (n := 1) (by decide) rfl rfl (by decide) dL_law_1194 dL_law_1195 dL_law_1197 dL_law_1198 dL_law_1199 ?_
  refine law_arg C0 hS hi hl 2 (n := 2) (by decide) rfl rfl (by decide) dL_law_1200 dL_law_1201 dL_law_1203 dL_law_1204 dL_law_1205 ?_
  refine law_arg C0 hS hi hl 3 (n := 3) (by decide) rfl rfl (by decide) dL_law_1206 dL_law_1207 dL_law_1209 dL_law_1210 dL_law_1211 ?_
  refine k_Vv (As := [.int (xs (i + 1)), .int (xs (i + 2)), .int (xs (i + 3))]) (rest := []) Z hK hP hS (t_X8_years l G hG (xs (i + 1)) (xs (i + 2)) (xs (i + 3)) σ _ e1) (cwV 3 hts gL_law_X8_years rfl rfl rfl (by decide +kernel) ⟨Nat.le_of_ble_eq_true rfl, Nat.le_of_ble_eq_true rfl⟩) (at_4 rfl) rfl rfl hl.1 rfl (Nat.le_of_ble_eq_true rfl) hc dL_law_1212 (fun H locs hP hS => ?_)
  have hP : Pw G σ1 H := hP
  refine lv_aload_n hx hb dL_law_1215 rfl (lv_at hl 3 rfl) ?_
  refine law_arg C0 hS hi hl 1 (n := 1) (by decide) rfl rfl (by decide) dL_law_1216 dL_law_1217 dL_law_1219 dL_law_1220 dL_law_1221 ?_
  refine law_arg C0 hS hi hl 2 (n := 2) (by decide) rfl rfl (by decide) dL_law_1222 dL_law_1223 dL_law_1225 dL_law_1226 dL_law_1227 ?_
  refine law_arg C0 hS hi hl 3 (n := 3) (by decide) rfl rfl (by decide) dL_law_1228 dL_law_1229 dL_law_1231 dL_law_1232 dL_law_1233 ?_
  refine k_Vv (As := [.int (xs (i + 1)), .int (xs (i + 2)), .int (xs (i + 3))]) (rest := [.int r]) Z hK hP hS (t_X9_years l G hG (xs (i + 1)) (xs (i + 2)) (xs (i + 3)) σ1 _ e2) (cwV 3 hts gL_law_X9_years rfl rfl rfl (by decide +kernel) ⟨Nat.le_of_ble_eq_true rfl, Nat.le_of_ble_eq_true rfl⟩) (at_5 rfl) rfl rfl hl.1 rfl (Nat.le_of_ble_eq_true rfl) hc dL_law_1234 (fun H locs hP hS => ?_)
  have hP : Pw G σ2 H := hP
  refine lv_icmp_eq (tgt := 1642) hx hb dL_law_1237 (by decide) (fun _ => ?_) (fun h => absurd rfl h)
  refine W.widen (k := cells + 1) (n := slots + 6) (Nat.le_add_right _ _) (Nat.le_add_right _ _) ?_
  exact kk σ2 H locs ls hI hP hS hl
set_option maxRecDepth 100000 in
set_option maxHeartbeats 4000000 in
theorem law_c32 (C : Lc p l s m meth c G b L xs) (hI : Inv σ) (hP : Pw G σ H) (hS : va_S (AG G) s.heap H locs) (hi : i + 6 ≤ L) (hl : lv_has ls 8 (lv5 G b i)) (hR : cells + 1 ≤ room_1.cells ∧ slots + 6 ≤ room_1.slots) (kk : ∀ (σ1 : St) (H1 : Heap) (locs1 : List Loc) (ls1 : Array Slot), Inv σ1 → Pw G σ1 H1 → va_S (AG G) s.heap H1 locs1 → lv_has ls1 8 (lv5 G b i) → W p l e room_1 s m #[Value.ref b] below meth c H1 locs1 (cells + 1) (slots + 6) Q (F0 m 1642 ls1 [])) : W p l e room_1 s m #[Value.ref b] below meth c H locs cells slots Q (F0 m 1242 ls []) := by
  have C0 := C
  obtain ⟨hx, hb, hml, hown, hts, hX, hbl, hlk, hr, hK, hXs, hgL, hG, hL, hfl⟩ := C
  have Z : CallFix p m c cL_law 8 s #[Value.ref b] wsL_law RL := ⟨hx, hb, hml, hown, hts⟩
  have hc : cells ≤ room_1.cells ∧ slots ≤ room_1.slots := ⟨by omega, by omega⟩
  obtain ⟨r, σ1, σ2, e1, e2, hI⟩ := p_image hI 
  refine lv_aload_n hx hb dL_law_1242 rfl (lv_at hl 2 rfl) ?_
  refine k_Vv (As := []) (rest := []) Z hK hP hS (t_X8_image l G hG  σ _ e1) (cwV 0 hts gL_law_X8_image rfl rfl rfl (by decide +kernel) ⟨Nat.le_of_ble_eq_true rfl, Nat.le_of_ble_eq_true rfl⟩) (at_4 rfl) rfl rfl hl.1 rfl (Nat.le_of_ble_eq_true rfl) hc dL_law_1243 (fun H locs hP hS => ?_)
  have hP : Pw G σ1 H := hP
  refine lv_aload_n hx hb dL_law_1246 rfl (lv_at hl 3 rfl) ?_
  refine k_Vv (As := []) (rest := [.int r]) Z hK hP hS (t_X9_image l G hG  σ1 _ e2) (cwV 0 hts gL_law_X9_image rfl rfl rfl (by decide +kernel) ⟨Nat.le_of_ble_eq_true rfl, Nat.le_of_ble_eq_true rfl⟩) (at_5 rfl) rfl rfl hl.1 rfl (Nat.le_of_ble_eq_true rfl) hc dL_law_1247 (fun H locs hP hS => ?_)
  have hP : Pw G σ2 H := hP
  refine lv_icmp_eq (tgt := 1642) hx hb dL_law_1250 (by decide) (fun _ => ?_) (fun h => absurd rfl h)
  refine W.widen (k := cells + 1) (n := slots + 6) (Nat.le_add_right _ _) (Nat.le_add_right _ _) ?_
  exact kk σ2 H locs ls hI hP hS hl
set_option maxRecDepth 100000 in
set_option maxHeartbeats 4000000 in
theorem law_c33 (C : Lc p l s m meth c G b L xs) (hI : Inv σ) (hP : Pw G σ H) (hS : va_S (AG G) s.heap H locs) (hi : i + 6 ≤ L) (hl : lv_has ls 8 (lv5 G b i)) (hR : cells + 1 ≤ room_1.cells ∧ slots + 6 ≤ room_1.slots) (kk : ∀ (σ1 : St) (H1 : Heap) (locs1 : List Loc) (ls1 : Array Slot), Inv σ1 → Pw G σ1 H1 → va_S (AG G) s.heap H1 locs1 → lv_has ls1 8 (lv5 G b i) → W p l e room_1 s m #[Value.ref b] below meth c H1 locs1 (cells + 1) (slots + 6) Q (F0 m 1642 ls1 [])) : W p l e room_1 s m #[Value.ref b] below meth c H locs cells slots Q (F0 m 1255 ls []) := by
  have C0 := C
  obtain ⟨hx, hb, hml, hown, hts, hX, hbl, hlk, hr, hK, hXs, hgL, hG, hL, hfl⟩ := C
  have Z : CallFix p m c cL_law 8 s #[Value.ref b] wsL_law RL := ⟨hx, hb, hml, hown, hts⟩
  have hc : cells ≤ room_1.cells ∧ slots ≤ room_1.slots := ⟨by omega, by omega⟩
  obtain ⟨r, σ1, σ2, e1, e2, hI⟩ := p_restore hI 
  refine lv_aload_n hx hb dL_law_1255 rfl (lv_at hl 2 rfl) ?_
  refine k_Vv (As := []) (rest := []) Z hK hP hS (t_X8_restore l G hG  σ _ e1) (cwV 0 hts gL_law_X8_restore rfl rfl rfl (by decide +kernel) ⟨Nat.le_of_ble_eq_true rfl, Nat.le_of_ble_eq_true rfl⟩) (at_4 rfl) rfl rfl hl.1 rfl (Nat.le_of_ble_eq_true rfl) hc dL_law_1256 (fun H locs hP hS => ?_)
  have hP : Pw G σ1 H := hP
  refine lv_aload_n hx hb dL_law_1259 rfl (lv_at hl 3 rfl) ?_
  refine k_Vv (As := []) (rest := [.int r]) Z hK hP hS (t_X9_restore l G hG  σ1 _ e2) (cwV 0 hts gL_law_X9_restore rfl rfl rfl (by decide +kernel) ⟨Nat.le_of_ble_eq_true rfl, Nat.le_of_ble_eq_true rfl⟩) (at_5 rfl) rfl rfl hl.1 rfl (Nat.le_of_ble_eq_true rfl) hc dL_law_1260 (fun H locs hP hS => ?_)
  have hP : Pw G σ2 H := hP
  refine lv_icmp_eq (tgt := 1642) hx hb dL_law_1263 (by decide) (fun _ => ?_) (fun h => absurd rfl h)
  refine W.widen (k := cells + 1) (n := slots + 6) (Nat.le_add_right _ _) (Nat.le_add_right _ _) ?_
  exact kk σ2 H locs ls hI hP hS hl
set_option maxRecDepth 100000 in
set_option maxHeartbeats 4000000 in
theorem law_c34 (C : Lc p l s m meth c G b L xs) (hI : Inv σ) (hP : Pw G σ H) (hS : va_S (AG G) s.heap H locs) (hi : i + 6 ≤ L) (hl : lv_has ls 8 (lv5 G b i)) (hR : cells + 1 ≤ room_1.cells ∧ slots + 6 ≤ room_1.slots) (kk : ∀ (σ1 : St) (H1 : Heap) (locs1 : List Loc) (ls1 : Array Slot), Inv σ1 → Pw G σ1 H1 → va_S (AG G) s.heap H1 locs1 → lv_has ls1 8 (lv5 G b i) → W p l e room_1 s m #[Value.ref b] below meth c H1 locs1 (cells + 1) (slots + 6) Q (F0 m 1642 ls1 [])) : W p l e room_1 s m #[Value.ref b] below meth c H locs cells slots Q (F0 m 1268 ls []) := by
  have C0 := C
  obtain ⟨hx, hb, hml, hown, hts, hX, hbl, hlk, hr, hK, hXs, hgL, hG, hL, hfl⟩ := C
  have Z : CallFix p m c cL_law 8 s #[Value.ref b] wsL_law RL := ⟨hx, hb, hml, hown, hts⟩
  have hc : cells ≤ room_1.cells ∧ slots ≤ room_1.slots := ⟨by omega, by omega⟩
  obtain ⟨r, e1, e2⟩ := p_count hI (xs (i + 1))
  refine lv_aload_n hx hb dL_law_1268 rfl (lv_at hl 2 rfl) ?_
  refine law_arg C0 hS hi hl 1 (n := 1) (by decide) rfl rfl (by decide) dL_law_1269 dL_law_1270 dL_law_1272 dL_law_1273 dL_law_1274 ?_
  refine k_Vv (As := [.int (xs (i + 1))]) (rest := []) Z hK hP hS (t_X8_count l G hG (xs (i + 1)) σ _ e1) (cwV 1 hts gL_law_X8_count rfl rfl rfl (by decide +kernel) ⟨Nat.le_of_ble_eq_true rfl, Nat.le_of_ble_eq_true rfl⟩) (at_4 rfl) rfl rfl hl.1 rfl (Nat.le_of_ble_eq_true rfl) hc dL_law_1275 (fun H locs hP hS => ?_)
  have hP : Pw G σ H := hP
  refine lv_aload_n hx hb dL_law_1278 rfl (lv_at hl 3 rfl) ?_
  refine law_arg C0 hS hi hl 1 (n := 1) (by decide) rfl rfl (by decide) dL_law_1279 dL_law_1280 dL_law_1282 dL_law_1283 dL_law_1284 ?_
  refine k_Vv (As := [.int (xs (i + 1))]) (rest := [.int r]) Z hK hP hS (t_X9_count l G hG (xs (i + 1)) σ _ e2) (cwV 1 hts gL_law_X9_count rfl rfl rfl (by decide +kernel) ⟨Nat.le_of_ble_eq_true rfl, Nat.le_of_ble_eq_true rfl⟩) (at_5 rfl) rfl rfl hl.1 rfl (Nat.le_of_ble_eq_true rfl) hc dL_law_1285 (fun H locs hP hS => ?_)
  have hP : Pw G σ H := hP
  refine lv_icmp_eq (tgt := 1642) hx hb dL_law_1288 (by decide) (fun _ => ?_) (fun h => absurd rfl h)
  refine W.widen (k := cells + 1) (n := slots + 6) (Nat.le_add_right _ _) (Nat.le_add_right _ _) ?_
  exact kk σ H locs ls hI hP hS hl
set_option maxRecDepth 100000 in
set_option maxHeartbeats 4000000 in
theorem law_c35 (C : Lc p l s m meth c G b L xs) (hI : Inv σ) (hP : Pw G σ H) (hS : va_S (AG G) s.heap H locs) (hi : i + 6 ≤ L) (hl : lv_has ls 8 (lv5 G b i)) (hR : cells + 1 ≤ room_1.cells ∧ slots + 6 ≤ room_1.slots) (kk : ∀ (σ1 : St) (H1 : Heap) (locs1 : List Loc) (ls1 : Array Slot), Inv σ1 → Pw G σ1 H1 → va_S (AG G) s.heap H1 locs1 → lv_has ls1 8 (lv5 G b i) → W p l e room_1 s m #[Value.ref b] below meth c H1 locs1 (cells + 1) (slots + 6) Q (F0 m 1642 ls1 [])) : W p l e room_1 s m #[Value.ref b] below meth c H locs cells slots Q (F0 m 1293 ls []) := by
  have C0 := C
  obtain ⟨hx, hb, hml, hown, hts, hX, hbl, hlk, hr, hK, hXs, hgL, hG, hL, hfl⟩ := C
  have Z : CallFix p m c cL_law 8 s #[Value.ref b] wsL_law RL := ⟨hx, hb, hml, hown, hts⟩
  have hc : cells ≤ room_1.cells ∧ slots ≤ room_1.slots := ⟨by omega, by omega⟩
  obtain ⟨r, σ1, σ2, e1, e2, hI⟩ := p_keep hI (xs (i + 1)) (xs (i + 2)) (xs (i + 3)) (xs (i + 4))
  refine lv_aload_n hx hb dL_law_1293 rfl (lv_at hl 2 rfl) ?_
  refine law_arg C0 hS hi hl 1 (n := 1) (by decide) rfl rfl (by decide) dL_law_1294 dL_law_1295 dL_law_1297 dL_law_1298 dL_law_1299 ?_
  refine law_arg C0 hS hi hl 2 (n := 2) (by decide) rfl rfl (by decide) dL_law_1300 dL_law_1301 dL_law_1303 dL_law_1304 dL_law_1305 ?_
  refine law_arg C0 hS hi hl 3 (n := 3) (by decide) rfl rfl (by decide) dL_law_1306 dL_law_1307 dL_law_1309 dL_law_1310 dL_law_1311 ?_
  refine law_arg C0 hS hi hl 4 (n := 4) (by decide) rfl rfl (by decide) dL_law_1312 dL_law_1313 dL_law_1315 dL_law_1316 dL_law_1317 ?_
  refine k_Vv (As := [.int (xs (i + 1)), .int (xs (i + 2)), .int (xs (i + 3)), .int (xs (i + 4))]) (rest := []) Z hK hP hS (t_X8_keep l G hG (xs (i + 1)) (xs (i + 2)) (xs (i + 3)) (xs (i + 4)) σ _ e1) (cwV 4 hts gL_law_X8_keep rfl rfl rfl (by decide +kernel) ⟨Nat.le_of_ble_eq_true rfl, Nat.le_of_ble_eq_true rfl⟩) (at_4 rfl) rfl rfl hl.1 rfl (Nat.le_of_ble_eq_true rfl) hc dL_law_1318 (fun H locs hP hS => ?_)
  have hP : Pw G σ1 H := hP
  refine lv_aload_n hx hb dL_law_1321 rfl (lv_at hl 3 rfl) ?_
  refine law_arg C0 hS hi hl 1 (n := 1) (by decide) rfl rfl (by decide) dL_law_1322 dL_law_1323 dL_law_1325 dL_law_1326 dL_law_1327 ?_
  refine law_arg C0 hS hi hl 2 (n := 2) (by decide) rfl rfl (by decide) dL_law_1328 dL_law_1329 dL_law_1331 dL_law_1332 dL_law_1333 ?_
  refine law_arg C0 hS hi hl 3 (n := 3) (by decide) rfl rfl (by decide) dL_law_1334 dL_law_1335 dL_law_1337 dL_law_1338 dL_law_1339 ?_
  refine law_arg C0 hS hi hl 4 (n := 4) (by decide) rfl rfl (by decide) dL_law_1340 dL_law_1341 dL_law_1343 dL_law_1344 dL_law_1345 ?_
  refine k_Vv (As := [.int (xs (i + 1)), .int (xs (i + 2)), .int (xs (i + 3)), .int (xs (i + 4))]) (rest := [.int r]) Z hK hP hS (t_X9_keep l G hG (xs (i + 1)) (xs (i + 2)) (xs (i + 3)) (xs (i + 4)) σ1 _ e2) (cwV 4 hts gL_law_X9_keep rfl rfl rfl (by decide +kernel) ⟨Nat.le_of_ble_eq_true rfl, Nat.le_of_ble_eq_true rfl⟩) (at_5 rfl) rfl rfl hl.1 rfl (Nat.le_of_ble_eq_true rfl) hc dL_law_1346 (fun H locs hP hS => ?_)
  have hP : Pw G σ2 H := hP
  refine lv_icmp_eq (tgt := 1642) hx hb dL_law_1349 (by decide) (fun _ => ?_) (fun h => absurd rfl h)
  refine W.widen (k := cells + 1) (n := slots + 6) (Nat.le_add_right _ _) (Nat.le_add_right _ _) ?_
  exact kk σ2 H locs ls hI hP hS hl
set_option maxRecDepth 100000 in
set_option maxHeartbeats 4000000 in
theorem law_c36 (C : Lc p l s m meth c G b L xs) (hI : Inv σ) (hP : Pw G σ H) (hS : va_S (AG G) s.heap H locs) (hi : i + 6 ≤ L) (hl : lv_has ls 8 (lv5 G b i)) (hR : cells + 1 ≤ room_1.cells ∧ slots + 6 ≤ room_1.slots) (kk : ∀ (σ1 : St) (H1 : Heap) (locs1 : List Loc) (ls1 : Array Slot), Inv σ1 → Pw G σ1 H1 → va_S (AG G) s.heap H1 locs1 → lv_has ls1 8 (lv5 G b i) → W p l e room_1 s m #[Value.ref b] below meth c H1 locs1 (cells + 1) (slots + 6) Q (F0 m 1642 ls1 [])) : W p l e room_1 s m #[Value.ref b] below meth c H locs cells slots Q (F0 m 1354 ls []) := by
  have C0 := C
  obtain ⟨hx, hb, hml, hown, hts, hX, hbl, hlk, hr, hK, hXs, hgL, hG, hL, hfl⟩ := C
  have Z : CallFix p m c cL_law 8 s #[Value.ref b] wsL_law RL := ⟨hx, hb, hml, hown, hts⟩
  have hc : cells ≤ room_1.cells ∧ slots ≤ room_1.slots := ⟨by omega, by omega⟩
  obtain ⟨r, σ1, σ2, e1, e2, hI⟩ := p_row hI (xs (i + 1)) (xs (i + 2)) (xs (i + 3))
  refine lv_aload_n hx hb dL_law_1354 rfl (lv_at hl 2 rfl) ?_
  refine law_arg C0 hS hi hl 1 (n := 1) (by decide) rfl rfl (by decide) dL_law_1355 dL_law_1356 dL_law_1358 dL_law_1359 dL_law_1360 ?_
  refine law_arg C0 hS hi hl 2 (n := 2) (by decide) rfl rfl (by decide) dL_law_1361 dL_law_1362 dL_law_1364 dL_law_1365 dL_law_1366 ?_
  refine law_arg C0 hS hi hl 3 (n := 3) (by decide) rfl rfl (by decide) dL_law_1367 dL_law_1368 dL_law_1370 dL_law_1371 dL_law_1372 ?_
  refine k_Vv (As := [.int (xs (i + 1)), .int (xs (i + 2)), .int (xs (i + 3))]) (rest := []) Z hK hP hS (t_X8_row l G hG (xs (i + 1)) (xs (i + 2)) (xs (i + 3)) σ _ e1) (cwV 3 hts gL_law_X8_row rfl rfl rfl (by decide +kernel) ⟨Nat.le_of_ble_eq_true rfl, Nat.le_of_ble_eq_true rfl⟩) (at_4 rfl) rfl rfl hl.1 rfl (Nat.le_of_ble_eq_true rfl) hc dL_law_1373 (fun H locs hP hS => ?_)
  have hP : Pw G σ1 H := hP
  refine lv_aload_n hx hb dL_law_1376 rfl (lv_at hl 3 rfl) ?_
  refine law_arg C0 hS hi hl 1 (n := 1) (by decide) rfl rfl (by decide) dL_law_1377 dL_law_1378 dL_law_1380 dL_law_1381 dL_law_1382 ?_
  refine law_arg C0 hS hi hl 2 (n := 2) (by decide) rfl rfl (by decide) dL_law_1383 dL_law_1384 dL_law_1386 dL_law_1387 dL_law_1388 ?_
  refine law_arg C0 hS hi hl 3 (n := 3) (by decide) rfl rfl (by decide) dL_law_1389 dL_law_1390 dL_law_1392 dL_law_1393 dL_law_1394 ?_
  refine k_Vv (As := [.int (xs (i + 1)), .int (xs (i + 2)), .int (xs (i + 3))]) (rest := [.int r]) Z hK hP hS (t_X9_row l G hG (xs (i + 1)) (xs (i + 2)) (xs (i + 3)) σ1 _ e2) (cwV 3 hts gL_law_X9_row rfl rfl rfl (by decide +kernel) ⟨Nat.le_of_ble_eq_true rfl, Nat.le_of_ble_eq_true rfl⟩) (at_5 rfl) rfl rfl hl.1 rfl (Nat.le_of_ble_eq_true rfl) hc dL_law_1395 (fun H locs hP hS => ?_)
  have hP : Pw G σ2 H := hP
  refine lv_icmp_eq (tgt := 1642) hx hb dL_law_1398 (by decide) (fun _ => ?_) (fun h => absurd rfl h)
  refine W.widen (k := cells + 1) (n := slots + 6) (Nat.le_add_right _ _) (Nat.le_add_right _ _) ?_
  exact kk σ2 H locs ls hI hP hS hl
set_option maxRecDepth 100000 in
set_option maxHeartbeats 4000000 in
theorem law_c37 (C : Lc p l s m meth c G b L xs) (hI : Inv σ) (hP : Pw G σ H) (hS : va_S (AG G) s.heap H locs) (hi : i + 6 ≤ L) (hl : lv_has ls 8 (lv5 G b i)) (hR : cells + 1 ≤ room_1.cells ∧ slots + 6 ≤ room_1.slots) (kk : ∀ (σ1 : St) (H1 : Heap) (locs1 : List Loc) (ls1 : Array Slot), Inv σ1 → Pw G σ1 H1 → va_S (AG G) s.heap H1 locs1 → lv_has ls1 8 (lv5 G b i) → W p l e room_1 s m #[Value.ref b] below meth c H1 locs1 (cells + 1) (slots + 6) Q (F0 m 1642 ls1 [])) : W p l e room_1 s m #[Value.ref b] below meth c H locs cells slots Q (F0 m 1403 ls []) := by
  have C0 := C
  obtain ⟨hx, hb, hml, hown, hts, hX, hbl, hlk, hr, hK, hXs, hgL, hG, hL, hfl⟩ := C
  have Z : CallFix p m c cL_law 8 s #[Value.ref b] wsL_law RL := ⟨hx, hb, hml, hown, hts⟩
  have hc : cells ≤ room_1.cells ∧ slots ≤ room_1.slots := ⟨by omega, by omega⟩
  obtain ⟨r, σ1, σ2, e1, e2, hI⟩ := p_put hI (xs (i + 1)) (xs (i + 2)) (xs (i + 3))
  refine lv_aload_n hx hb dL_law_1403 rfl (lv_at hl 2 rfl) ?_
  refine law_arg C0 hS hi hl 1 (n := 1) (by decide) rfl rfl (by decide) dL_law_1404 dL_law_1405 dL_law_1407 dL_law_1408 dL_law_1409 ?_
  refine law_arg C0 hS hi hl 2 (n := 2) (by decide) rfl rfl (by decide) dL_law_1410 dL_law_1411 dL_law_1413 dL_law_1414 dL_law_1415 ?_
  refine law_arg C0 hS hi hl 3 (n := 3) (by decide) rfl rfl (by decide) dL_law_1416 dL_law_1417 dL_law_1419 dL_law_1420 dL_law_1421 ?_
  refine k_Vv (As := [.int (xs (i + 1)), .int (xs (i + 2)), .int (xs (i + 3))]) (rest := []) Z hK hP hS (t_X8_put l G hG (xs (i + 1)) (xs (i + 2)) (xs (i + 3)) σ _ e1) (cwV 3 hts gL_law_X8_put rfl rfl rfl (by decide +kernel) ⟨Nat.le_of_ble_eq_true rfl, Nat.le_of_ble_eq_true rfl⟩) (at_4 rfl) rfl rfl hl.1 rfl (Nat.le_of_ble_eq_true rfl) hc dL_law_1422 (fun H locs hP hS => ?_)
  have hP : Pw G σ1 H := hP
  refine lv_aload_n hx hb dL_law_1425 rfl (lv_at hl 3 rfl) ?_
  refine law_arg C0 hS hi hl 1 (n := 1) (by decide) rfl rfl (by decide) dL_law_1426 dL_law_1427 dL_law_1429 dL_law_1430 dL_law_1431 ?_
  refine law_arg C0 hS hi hl 2 (n := 2) (by decide) rfl rfl (by decide) dL_law_1432 dL_law_1433 dL_law_1435 dL_law_1436 dL_law_1437 ?_
  refine law_arg C0 hS hi hl 3 (n := 3) (by decide) rfl rfl (by decide) dL_law_1438 dL_law_1439 dL_law_1441 dL_law_1442 dL_law_1443 ?_
  refine k_Vv (As := [.int (xs (i + 1)), .int (xs (i + 2)), .int (xs (i + 3))]) (rest := [.int r]) Z hK hP hS (t_X9_put l G hG (xs (i + 1)) (xs (i + 2)) (xs (i + 3)) σ1 _ e2) (cwV 3 hts gL_law_X9_put rfl rfl rfl (by decide +kernel) ⟨Nat.le_of_ble_eq_true rfl, Nat.le_of_ble_eq_true rfl⟩) (at_5 rfl) rfl rfl hl.1 rfl (Nat.le_of_ble_eq_true rfl) hc dL_law_1444 (fun H locs hP hS => ?_)
  have hP : Pw G σ2 H := hP
  refine lv_icmp_eq (tgt := 1642) hx hb dL_law_1447 (by decide) (fun _ => ?_) (fun h => absurd rfl h)
  refine W.widen (k := cells + 1) (n := slots + 6) (Nat.le_add_right _ _) (Nat.le_add_right _ _) ?_
  exact kk σ2 H locs ls hI hP hS hl
set_option maxRecDepth 100000 in
set_option maxHeartbeats 4000000 in
theorem law_c38 (C : Lc p l s m meth c G b L xs) (hI : Inv σ) (hP : Pw G σ H) (hS : va_S (AG G) s.heap H locs) (hi : i + 6 ≤ L) (hl : lv_has ls 8 (lv5 G b i)) (hR : cells + 1 ≤ room_1.cells ∧ slots + 6 ≤ room_1.slots) (kk : ∀ (σ1 : St) (H1 : Heap) (locs1 : List Loc) (ls1 : Array Slot), Inv σ1 → Pw G σ1 H1 → va_S (AG G) s.heap H1 locs1 → lv_has ls1 8 (lv5 G b i) → W p l e room_1 s m #[Value.ref b] below meth c H1 locs1 (cells + 1) (slots + 6) Q (F0 m 1642 ls1 [])) : W p l e room_1 s m #[Value.ref b] below meth c H locs cells slots Q (F0 m 1452 ls []) := by
  have C0 := C
  obtain ⟨hx, hb, hml, hown, hts, hX, hbl, hlk, hr, hK, hXs, hgL, hG, hL, hfl⟩ := C
  have Z : CallFix p m c cL_law 8 s #[Value.ref b] wsL_law RL := ⟨hx, hb, hml, hown, hts⟩
  have hc : cells ≤ room_1.cells ∧ slots ≤ room_1.slots := ⟨by omega, by omega⟩
  obtain ⟨o, e1, h3, hτ⟩ := p_element hI (xs (i + 1)) (xs (i + 2))
  have hel : ∀ k : Nat, k ≠ 75 → elS σ o k = σ k := by
    intro k hk
    unfold elS
    split
    · exact up_n hk
    · rfl
  obtain ⟨b2, σ2, e2, g1, g2, hI, g3⟩ := hτ (elS σ o) hel
  refine lv_aload_n hx hb dL_law_1452 rfl (lv_at hl 2 rfl) ?_
  refine law_arg C0 hS hi hl 1 (n := 1) (by decide) rfl rfl (by decide) dL_law_1453 dL_law_1454 dL_law_1456 dL_law_1457 dL_law_1458 ?_
  refine law_arg C0 hS hi hl 2 (n := 2) (by decide) rfl rfl (by decide) dL_law_1459 dL_law_1460 dL_law_1462 dL_law_1463 dL_law_1464 ?_
  refine lv_aload_n hx hb dL_law_1465 rfl (lv_at hl 4 rfl) ?_
  refine k_goM (vx_runSW (As := [.ref (gA G 0), .int (xs (i + 1)), .int (xs (i + 2)), .ref (gA G 75)]) (rest := []) Z (t_L_element l hfl G hG (xs (i + 1)) (xs (i + 2)) σ o e1 h3) (vx_cwSW 4 hts gL_law_L_element rfl rfl rfl (by decide +kernel) ⟨Nat.le_of_ble_eq_true rfl, Nat.le_of_ble_eq_true rfl⟩) ⟨x_blind, fun U hU hW => ⟨rfl, by rw [hU]; exact hP, hK.warm hW, hXs.go hS hU hW⟩⟩ rfl rfl hl.1 rfl (lv_room (Nat.le_of_ble_eq_true rfl)) dL_law_1466 hR) hS (fun H locs hP hS => ?_)
  have hP : Pw G (elS σ o) H := hP
  refine lv_istore (lv' := [(5, .int (nI o.1)), (4, .int (nI i)), (0, .ref b), (1, .ref (gA G 0)), (2, .ref (gA G 61)), (3, .ref (gA G 75))]) hx hb dL_law_1469 hl (by decide) rfl (fun ls hl => ?_)
  refine lv_aload_n hx hb dL_law_1471 rfl (lv_at hl 4 rfl) ?_
  have hl2 : lv_has ls 8 [(4, .int (nI i)), (0, .ref b)] := lv_sub hl [1, 2] rfl
  refine law_arg C0 hS hi hl2 1 (n := 1) (by decide) rfl rfl (by decide) dL_law_1472 dL_law_1473 dL_law_1475 dL_law_1476 dL_law_1477 ?_
  refine law_arg C0 hS hi hl2 2 (n := 2) (by decide) rfl rfl (by decide) dL_law_1478 dL_law_1479 dL_law_1481 dL_law_1482 dL_law_1483 ?_
  refine k_Vv (As := [.int (xs (i + 1)), .int (xs (i + 2))]) (rest := []) Z hK hP hS (t_X9_element l G hG (xs (i + 1)) (xs (i + 2)) (elS σ o) _ e2) (cwV 2 hts gL_law_X9_element rfl rfl rfl (by decide +kernel) ⟨Nat.le_of_ble_eq_true rfl, Nat.le_of_ble_eq_true rfl⟩) (at_5 rfl) rfl rfl hl.1 rfl (Nat.le_of_ble_eq_true rfl) hR dL_law_1484 (fun H locs hP hS => ?_)
  have hP : Pw G σ2 H := hP
  refine lv_lstore (lv' := [(6, .long b2), (5, .int (nI o.1)), (4, .int (nI i)), (0, .ref b), (1, .ref (gA G 0)), (2, .ref (gA G 61)), (3, .ref (gA G 75))]) hx hb dL_law_1487 hl (by decide) rfl (fun ls hl => ?_)
  refine lv_aload_n hx hb dL_law_1489 rfl (lv_at hl 5 rfl) ?_
  refine k_Vv (As := []) (rest := []) Z hK hP hS (t_X9_thrown l G hG σ2) (cwV 0 hts gL_law_X9_thrown rfl rfl rfl (by decide +kernel) ⟨Nat.le_of_ble_eq_true rfl, Nat.le_of_ble_eq_true rfl⟩) (at_5 rfl) rfl rfl hl.1 rfl (Nat.le_of_ble_eq_true rfl) hR dL_law_1490 (fun H locs hP hS => ?_)
  have e3 : f_X9_thrown σ2 = nI o.1 := g1
  refine lv_iload hx hb dL_law_1493 (lv_at hl 1 rfl) ?_
  refine lv_icmp_eq (tgt := 1500) hx hb dL_law_1495 (by decide) (fun _ => ?_) (fun h => absurd e3 h)
  have hl5 : lv_has ls 8 (lv5 G b i) := lv_sub hl [2, 3, 4, 5, 6] rfl
  refine lv_iload hx hb dL_law_1500 (lv_at hl 1 rfl) ?_
  refine lv_if_ne (tgt := 1516) hx hb dL_law_1502 (by decide) (fun _ => ?_) (fun h0 => ?_)
  · refine lv_goto (tgt := 1642) hx hb dL_law_1516 (by decide) ?_
    exact kk σ2 H locs ls hI hP hS hl5
  · have h0 : o.1 = 0 := by
      rcases h3 with h | h | h
      · exact h
      · rw [h] at h0; exact absurd h0 (by decide)
      · rw [h] at h0; exact absurd h0 (by decide)
    refine lv_aload_n hx hb dL_law_1505 rfl (lv_at hl 6 rfl) ?_
    refine lv_iconst (v := 0) hx hb dL_law_1506 (by decide) ?_
    refine va_lald (i := 0) hx hb hK.1 hP 75 3 (at_9 rfl) rfl (show ¬ ((0 : Int32) < 0 ∨ 1 ≤ (0 : Int32).toNatClampNeg) by decide) dL_law_1507 ?_
    refine lv_lload hx hb dL_law_1508 (lv_at hl 0 rfl) ?_
    refine W.lcmp hx hb dL_law_1510 ?_
    have e4 : (σ2 75 0).toInt64 = b2 := by
      have e5 : elS σ o = up σ 75 0 o.2 := by unfold elS; rw [if_pos h0]
      rw [g2 h0, g3, e5, up_s, pk_us]
    refine lv_if_eq (tgt := 1516) hx hb dL_law_1511 (by decide) (fun _ => ?_) (fun h => absurd ((lg_cmp_eq _ _).mpr e4) h)
    refine lv_goto (tgt := 1642) hx hb dL_law_1516 (by decide) ?_
    exact kk σ2 H locs ls hI hP hS hl5
set_option maxRecDepth 100000 in
set_option maxHeartbeats 4000000 in
theorem law_c39 (C : Lc p l s m meth c G b L xs) (hI : Inv σ) (hP : Pw G σ H) (hS : va_S (AG G) s.heap H locs) (hi : i + 6 ≤ L) (hl : lv_has ls 8 (lv5 G b i)) (hR : cells + 1 ≤ room_1.cells ∧ slots + 6 ≤ room_1.slots) (kk : ∀ (σ1 : St) (H1 : Heap) (locs1 : List Loc) (ls1 : Array Slot), Inv σ1 → Pw G σ1 H1 → va_S (AG G) s.heap H1 locs1 → lv_has ls1 8 (lv5 G b i) → W p l e room_1 s m #[Value.ref b] below meth c H1 locs1 (cells + 1) (slots + 6) Q (F0 m 1642 ls1 [])) : W p l e room_1 s m #[Value.ref b] below meth c H locs cells slots Q (F0 m 1519 ls []) := by
  have C0 := C
  obtain ⟨hx, hb, hml, hown, hts, hX, hbl, hlk, hr, hK, hXs, hgL, hG, hL, hfl⟩ := C
  have Z : CallFix p m c cL_law 8 s #[Value.ref b] wsL_law RL := ⟨hx, hb, hml, hown, hts⟩
  have hc : cells ≤ room_1.cells ∧ slots ≤ room_1.slots := ⟨by omega, by omega⟩
  obtain ⟨r, σ1, σ2, e1, e2, hI⟩ := p_copy hI (xs (i + 1)) (xs (i + 2)) (xs (i + 3)) (xs (i + 4)) (xs (i + 5))
  refine lv_aload_n hx hb dL_law_1519 rfl (lv_at hl 2 rfl) ?_
  refine law_arg C0 hS hi hl 1 (n := 1) (by decide) rfl rfl (by decide) dL_law_1520 dL_law_1521 dL_law_1523 dL_law_1524 dL_law_1525 ?_
  refine law_arg C0 hS hi hl 2 (n := 2) (by decide) rfl rfl (by decide) dL_law_1526 dL_law_1527 dL_law_1529 dL_law_1530 dL_law_1531 ?_
  refine law_arg C0 hS hi hl 3 (n := 3) (by decide) rfl rfl (by decide) dL_law_1532 dL_law_1533 dL_law_1535 dL_law_1536 dL_law_1537 ?_
  refine law_arg C0 hS hi hl 4 (n := 4) (by decide) rfl rfl (by decide) dL_law_1538 dL_law_1539 dL_law_1541 dL_law_1542 dL_law_1543 ?_
  refine law_arg C0 hS hi hl 5 (n := 5) (by decide) rfl rfl (by decide) dL_law_1544 dL_law_1545 dL_law_1547 dL_law_1548 dL_law_1549 ?_
  refine k_Vv (As := [.int (xs (i + 1)), .int (xs (i + 2)), .int (xs (i + 3)), .int (xs (i + 4)), .int (xs (i + 5))]) (rest := []) Z hK hP hS (t_X8_copy l G hG (xs (i + 1)) (xs (i + 2)) (xs (i + 3)) (xs (i + 4)) (xs (i + 5)) σ _ e1) (cwV 5 hts gL_law_X8_copy rfl rfl rfl (by decide +kernel) ⟨Nat.le_of_ble_eq_true rfl, Nat.le_of_ble_eq_true rfl⟩) (at_4 rfl) rfl rfl hl.1 rfl (Nat.le_of_ble_eq_true rfl) hc dL_law_1550 (fun H locs hP hS => ?_)
  have hP : Pw G σ1 H := hP
  refine lv_aload_n hx hb dL_law_1553 rfl (lv_at hl 3 rfl) ?_
  refine law_arg C0 hS hi hl 1 (n := 1) (by decide) rfl rfl (by decide) dL_law_1554 dL_law_1555 dL_law_1557 dL_law_1558 dL_law_1559 ?_
  refine law_arg C0 hS hi hl 2 (n := 2) (by decide) rfl rfl (by decide) dL_law_1560 dL_law_1561 dL_law_1563 dL_law_1564 dL_law_1565 ?_
  refine law_arg C0 hS hi hl 3 (n := 3) (by decide) rfl rfl (by decide) dL_law_1566 dL_law_1567 dL_law_1569 dL_law_1570 dL_law_1571 ?_
  refine law_arg C0 hS hi hl 4 (n := 4) (by decide) rfl rfl (by decide) dL_law_1572 dL_law_1573 dL_law_1575 dL_law_1576 dL_law_1577 ?_
  refine law_arg C0 hS hi hl 5 (n := 5) (by decide) rfl rfl (by decide) dL_law_1578 dL_law_1579 dL_law_1581 dL_law_1582 dL_law_1583 ?_
  refine k_Vv (As := [.int (xs (i + 1)), .int (xs (i + 2)), .int (xs (i + 3)), .int (xs (i + 4)), .int (xs (i + 5))]) (rest := [.int r]) Z hK hP hS (t_X9_copy l G hG (xs (i + 1)) (xs (i + 2)) (xs (i + 3)) (xs (i + 4)) (xs (i + 5)) σ1 _ e2) (cwV 5 hts gL_law_X9_copy rfl rfl rfl (by decide +kernel) ⟨Nat.le_of_ble_eq_true rfl, Nat.le_of_ble_eq_true rfl⟩) (at_5 rfl) rfl rfl hl.1 rfl (Nat.le_of_ble_eq_true rfl) hc dL_law_1584 (fun H locs hP hS => ?_)
  have hP : Pw G σ2 H := hP
  refine lv_icmp_eq (tgt := 1642) hx hb dL_law_1587 (by decide) (fun _ => ?_) (fun h => absurd rfl h)
  refine W.widen (k := cells + 1) (n := slots + 6) (Nat.le_add_right _ _) (Nat.le_add_right _ _) ?_
  exact kk σ2 H locs ls hI hP hS hl
set_option maxRecDepth 100000 in
set_option maxHeartbeats 4000000 in
theorem law_c40 (C : Lc p l s m meth c G b L xs) (hI : Inv σ) (hP : Pw G σ H) (hS : va_S (AG G) s.heap H locs) (hi : i + 6 ≤ L) (hl : lv_has ls 8 (lv5 G b i)) (hR : cells + 1 ≤ room_1.cells ∧ slots + 6 ≤ room_1.slots) (kk : ∀ (σ1 : St) (H1 : Heap) (locs1 : List Loc) (ls1 : Array Slot), Inv σ1 → Pw G σ1 H1 → va_S (AG G) s.heap H1 locs1 → lv_has ls1 8 (lv5 G b i) → W p l e room_1 s m #[Value.ref b] below meth c H1 locs1 (cells + 1) (slots + 6) Q (F0 m 1642 ls1 [])) : W p l e room_1 s m #[Value.ref b] below meth c H locs cells slots Q (F0 m 1592 ls []) := by
  have C0 := C
  obtain ⟨hx, hb, hml, hown, hts, hX, hbl, hlk, hr, hK, hXs, hgL, hG, hL, hfl⟩ := C
  have Z : CallFix p m c cL_law 8 s #[Value.ref b] wsL_law RL := ⟨hx, hb, hml, hown, hts⟩
  have hc : cells ≤ room_1.cells ∧ slots ≤ room_1.slots := ⟨by omega, by omega⟩
  obtain ⟨r, e1, e2⟩ := p_cost hI (xs (i + 1))
  refine lv_aload_n hx hb dL_law_1592 rfl (lv_at hl 2 rfl) ?_
  refine law_arg C0 hS hi hl 1 (n := 1) (by decide) rfl rfl (by decide) dL_law_1593 dL_law_1594 dL_law_1596 dL_law_1597 dL_law_1598 ?_
  refine k_Vv (As := [.int (xs (i + 1))]) (rest := []) Z hK hP hS (t_X8_cost l G hG (xs (i + 1)) σ _ e1) (cwV 1 hts gL_law_X8_cost rfl rfl rfl (by decide +kernel) ⟨Nat.le_of_ble_eq_true rfl, Nat.le_of_ble_eq_true rfl⟩) (at_4 rfl) rfl rfl hl.1 rfl (Nat.le_of_ble_eq_true rfl) hc dL_law_1599 (fun H locs hP hS => ?_)
  have hP : Pw G σ H := hP
  refine lv_aload_n hx hb dL_law_1602 rfl (lv_at hl 3 rfl) ?_
  refine law_arg C0 hS hi hl 1 (n := 1) (by decide) rfl rfl (by decide) dL_law_1603 dL_law_1604 dL_law_1606 dL_law_1607 dL_law_1608 ?_
  refine k_Vv (As := [.int (xs (i + 1))]) (rest := [.int r]) Z hK hP hS (t_X9_cost l G hG (xs (i + 1)) σ _ e2) (cwV 1 hts gL_law_X9_cost rfl rfl rfl (by decide +kernel) ⟨Nat.le_of_ble_eq_true rfl, Nat.le_of_ble_eq_true rfl⟩) (at_5 rfl) rfl rfl hl.1 rfl (Nat.le_of_ble_eq_true rfl) hc dL_law_1609 (fun H locs hP hS => ?_)
  have hP : Pw G σ H := hP
  refine lv_icmp_eq (tgt := 1642) hx hb dL_law_1612 (by decide) (fun _ => ?_) (fun h => absurd rfl h)
  refine W.widen (k := cells + 1) (n := slots + 6) (Nat.le_add_right _ _) (Nat.le_add_right _ _) ?_
  exact kk σ H locs ls hI hP hS hl
set_option maxRecDepth 100000 in
set_option maxHeartbeats 4000000 in
theorem law_c41 (C : Lc p l s m meth c G b L xs) (hI : Inv σ) (hP : Pw G σ H) (hS : va_S (AG G) s.heap H locs) (hi : i + 6 ≤ L) (hl : lv_has ls 8 (lv5 G b i)) (hR : cells + 1 ≤ room_1.cells ∧ slots + 6 ≤ room_1.slots) (kk : ∀ (σ1 : St) (H1 : Heap) (locs1 : List Loc) (ls1 : Array Slot), Inv σ1 → Pw G σ1 H1 → va_S (AG G) s.heap H1 locs1 → lv_has ls1 8 (lv5 G b i) → W p l e room_1 s m #[Value.ref b] below meth c H1 locs1 (cells + 1) (slots + 6) Q (F0 m 1642 ls1 [])) : W p l e room_1 s m #[Value.ref b] below meth c H locs cells slots Q (F0 m 1617 ls []) := by
  have C0 := C
  obtain ⟨hx, hb, hml, hown, hts, hX, hbl, hlk, hr, hK, hXs, hgL, hG, hL, hfl⟩ := C
  have Z : CallFix p m c cL_law 8 s #[Value.ref b] wsL_law RL := ⟨hx, hb, hml, hown, hts⟩
  have hc : cells ≤ room_1.cells ∧ slots ≤ room_1.slots := ⟨by omega, by omega⟩
  obtain ⟨r, e1, e2⟩ := p_toss hI (xs (i + 1))
  refine lv_aload_n hx hb dL_law_1617 rfl (lv_at hl 2 rfl) ?_
  refine law_arg C0 hS hi hl 1 (n := 1) (by decide) rfl rfl (by decide) dL_law_1618 dL_law_1619 dL_law_1621 dL_law_1622 dL_law_1623 ?_
  refine k_goM (va_runV (As := [.int (xs (i + 1))]) (rest := []) (C := RX8) Z (t_X8_toss l hfl G hG (xs (i + 1)) σ _ e1) (cwV 1 hts gL_law_X8_toss rfl rfl rfl (by decide +kernel) ⟨Nat.le_of_ble_eq_true rfl, Nat.le_of_ble_eq_true rfl⟩) ⟨x_blind, va_recv hK.1 hP (ci := 4) rfl (at_4 rfl), fun U hU hW => ⟨rfl, by rw [hU]; exact hP, hK.warm hW, hXs.go hS hU hW⟩⟩ rfl rfl hl.1 rfl (lv_room (Nat.le_of_ble_eq_true rfl)) dL_law_1624 hR) hS (fun H locs hP hS => ?_)
  have hP : Pw G σ H := hP
  refine lv_aload_n hx hb dL_law_1627 rfl (lv_at hl 3 rfl) ?_
  refine law_arg C0 hS hi hl 1 (n := 1) (by decide) rfl rfl (by decide) dL_law_1628 dL_law_1629 dL_law_1631 dL_law_1632 dL_law_1633 ?_
  refine k_Vv (As := [.int (xs (i + 1))]) (rest := [.int r]) Z hK hP hS (t_X9_toss l G hG (xs (i + 1)) σ _ e2) (cwV 1 hts gL_law_X9_toss rfl rfl rfl (by decide +kernel) ⟨Nat.le_of_ble_eq_true rfl, Nat.le_of_ble_eq_true rfl⟩) (at_5 rfl) rfl rfl hl.1 rfl (Nat.le_of_ble_eq_true rfl) hR dL_law_1634 (fun H locs hP hS => ?_)
  have hP : Pw G σ H := hP
  refine lv_icmp_eq (tgt := 1642) hx hb dL_law_1637 (by decide) (fun _ => ?_) (fun h => absurd rfl h)
  exact kk σ H locs ls hI hP hS hl
end LAW
