def f_X9_today (x1 : Int32) (σ : St) : Option (Int32 × St) := (if (f_X9_isIn x1 (0 : Int32) (365 : Int32)) = true then (some (σ 62 1, up σ 62 1 x1)) else (some ((-1 : Int32), σ)))
set_option maxRecDepth 100000 in
set_option maxHeartbeats 4000000 in
theorem t_X9_today (l : Launch) (G : GT) (hG : Dw G) (x1 : Int32) (σ : St) (o : Int32 × St) (hF : f_X9_today x1 σ = some o) : Ct l G yX9_today wsX9_today 1 22 [.ref (gA G 61), .int x1] σ (some (.int o.1)) o.2 := by
  refine Met.ofW (cc := cX9_today) (maxL := 3) (ret := (some .int)) (by decide) rfl ?_
  intro p e s m args below meth c s₁ B hml hv
  obtain ⟨rfl, hP, hK⟩ := hv
  have hx := B.exec
  have hb := B.bytes
  have hr := B.returns
  have hts := atoms_spec (ws := wsX9_today) B.pre
  have hown : s.vm.findClass RX9 = some m.cls := findClass_of_methodNamed B.named
  have hlocks := B.notSynchronized
  have Z : CallFix p m c cX9_today 3 s _ wsX9_today RX9 := ⟨hx, hb, hml, hown, hts⟩
  have hS : va_S (AG G) s.heap s.heap [] := va_S.rf
  have inX9 : ∀ w ∈ u_ws RX9 TX9 21, w ∈ wsX9_today := by decide +kernel
  have w1 := hts (.fieldLink RX9 9 "AlmanacOfTheYearGoneModel" "s" "[I") (by decide +kernel)
  have hl := lv_entry ([.ref (gA G 61), .int x1]) (n := 3) (Nat.le_of_ble_eq_true rfl)
  rw [lg_entry_eq]
  generalize (lg_sl ([.ref (gA G 61), .int x1]) ++ List.replicate (3 - (lg_sl ([.ref (gA G 61), .int x1])).length) Slot.unset).toArray = ls at hl ⊢
  have hl : lv_has ls 3 [(0, .ref (gA G 61)), (1, .int x1)] := hl
  unfold f_X9_today at hF
  refine lv_iload_n hx hb dX9_today_0 rfl (lv_at hl 1 rfl) ?_
  refine lv_iconst (v := 0) hx hb dX9_today_1 (by decide) ?_
  refine lv_sipush (v := 365) hx hb dX9_today_2 (by decide) ?_
  refine k_Sv (As := [.int x1, .int (0 : Int32), .int (365 : Int32)]) (rest := []) Z hK hP hS (t_X9_isIn l G hG x1 (0 : Int32) (365 : Int32) σ) (va_cwS 3 hts gX9_today_X9_isIn rfl rfl rfl (by decide +kernel) ⟨Nat.le_of_ble_eq_true rfl, Nat.le_of_ble_eq_true rfl⟩) rfl hl.1 rfl (Nat.le_of_ble_eq_true rfl) ⟨Nat.zero_le _, Nat.zero_le _⟩ dX9_today_5 (fun H locs hP hS => ?_)
  refine lv_if_ne (tgt := 13) hx hb dX9_today_8 (by decide) (fun c1 => ?_) (fun c1 => ?_)
  · have hF := ite_t (b2i_n0 c1) hF
    refine lv_aload_n hx hb dX9_today_13 rfl (lv_at hl 0 rfl) ?_
    refine va_get (ci := 5) (C := RX9) (T := TX9) (N := 21) (v := .ref (gA G 62)) hx hb hts inX9 hown hK.1 hP 61 (at_5 rfl) rfl 0 (by decide) w1 (fun _ h9 => h9) rfl dX9_today_14 ?_
    refine lv_iconst (v := 1) hx hb dX9_today_17 (by decide) ?_
    refine va_iald hx hb hK.1 hP 62 0 (at_6 (rfl : kd 62 = 6) (rfl : ln 62 = 52)) rfl (inb_in (by decide)) dX9_today_18 ?_
    refine W.eq (g2 := F0 m 19 ls ([.int (σ 62 1)])) rfl ?_
    refine lv_istore_n (lv' := [(2, .int (σ 62 1)), (0, .ref (gA G 61)), (1, .int x1)]) hx hb dX9_today_19 rfl hl (by decide) rfl (fun ls hl => ?_)
    refine lv_aload_n hx hb dX9_today_20 rfl (lv_at hl 1 rfl) ?_
    refine va_get (ci := 5) (C := RX9) (T := TX9) (N := 21) (v := .ref (gA G 62)) hx hb hts inX9 hown hK.1 hP 61 (at_5 rfl) rfl 0 (by decide) w1 (fun _ h9 => h9) rfl dX9_today_21 ?_
    refine lv_iconst (v := 1) hx hb dX9_today_24 (by decide) ?_
    refine lv_iload_n hx hb dX9_today_25 rfl (lv_at hl 2 rfl) ?_
    refine va_iast hx hb hK.1 hP (Dw.D hG) hS 62 0 (at_6 (rfl : kd 62 = 6) (rfl : ln 62 = 52)) rfl (inb_in (by decide)) dX9_today_26 (fun H locs hP _ hS => ?_)
    have hP : Pw G (up σ 62 1 x1) H := Pw.of hP (set_6 (rfl : kd 62 = 6) (rfl : ln 62 = 52))
    refine lv_iload_n hx hb dX9_today_27 rfl (lv_at hl 0 rfl) ?_
    exact e_iS hx hb hr hP hS hlocks dX9_today_28 hF
  · have hF := ite_f (b2i_e0 c1) hF
    refine lv_iconst (v := -1) hx hb dX9_today_11 (by decide) ?_
    exact e_iS hx hb hr hP hS hlocks dX9_today_12 hF
def f_X9_remembers_15 (x1 : Int32) (x2 : Int32) (σ : St) : Option Int32 := (some (-1 : Int32))
theorem f_X9_remembers_15_e {x1 : Int32} {x2 : Int32} {σ : St} : f_X9_remembers_15 x1 x2 σ  = (some (-1 : Int32)) := rfl
def f_X9_remembers (x1 : Int32) (x2 : Int32) (σ : St) : Option Int32 := (if (f_X9_isPerson x1) = true then (ob (f_X9_isDeed x2 σ) (fun q2 => if q2 = true then (ob (f_X9_hasIt 62 x1 x2 σ) (fun q5 => if q5 = true then (some (1 : Int32)) else (some (0 : Int32)))) else f_X9_remembers_15 x1 x2 σ)) else f_X9_remembers_15 x1 x2 σ)
set_option maxRecDepth 100000 in
set_option maxHeartbeats 4000000 in
theorem t_X9_remembers (l : Launch) (G : GT) (hG : Dw G) (x1 : Int32) (x2 : Int32) (σ : St) (o : Int32) (hF : f_X9_remembers x1 x2 σ = some o) : Ct l G yX9_remembers wsX9_remembers 3 67 [.ref (gA G 61), .int x1, .int x2] σ (some (.int o)) σ := by
  refine Met.ofW (cc := cX9_remembers) (maxL := 3) (ret := (some .int)) (by decide) rfl ?_
  intro p e s m args below meth c s₁ B hml hv
  obtain ⟨rfl, hP, hK⟩ := hv
  have hx := B.exec
  have hb := B.bytes
  have hr := B.returns
  have hts := atoms_spec (ws := wsX9_remembers) B.pre
  have hown : s.vm.findClass RX9 = some m.cls := findClass_of_methodNamed B.named
  have hlocks := B.notSynchronized
  have Z : CallFix p m c cX9_remembers 3 s _ wsX9_remembers RX9 := ⟨hx, hb, hml, hown, hts⟩
  have hS : va_S (AG G) s.heap s.heap [] := va_S.rf
  have inX9 : ∀ w ∈ u_ws RX9 TX9 21, w ∈ wsX9_remembers := by decide +kernel
  have w1 := hts (.fieldLink RX9 9 "AlmanacOfTheYearGoneModel" "s" "[I") (by decide +kernel)
  have hl := lv_entry ([.ref (gA G 61), .int x1, .int x2]) (n := 3) (Nat.le_of_ble_eq_true rfl)
  rw [lg_entry_eq]
  generalize (lg_sl ([.ref (gA G 61), .int x1, .int x2]) ++ List.replicate (3 - (lg_sl ([.ref (gA G 61), .int x1, .int x2])).length) Slot.unset).toArray = ls at hl ⊢
  have hl : lv_has ls 3 [(0, .ref (gA G 61)), (1, .int x1), (2, .int x2)] := hl
  unfold f_X9_remembers at hF
  refine lv_iload_n hx hb dX9_remembers_0 rfl (lv_at hl 1 rfl) ?_
  refine k_Sv (As := [.int x1]) (rest := []) Z hK hP hS (t_X9_isPerson l G hG x1 σ) (va_cwS 1 hts gX9_remembers_X9_isPerson rfl rfl rfl (by decide +kernel) ⟨Nat.le_of_ble_eq_true rfl, Nat.le_of_ble_eq_true rfl⟩) rfl hl.1 rfl (Nat.le_of_ble_eq_true rfl) ⟨Nat.zero_le _, Nat.zero_le _⟩ dX9_remembers_1 (fun H locs hP hS => ?_)
  have J15 : ∀ (H : Heap) (locs : List Loc) (hP : Pw G σ H) (hS : va_S (AG G) s.heap H locs) (ls : Array Slot) (hl : lv_has ls 3 [(0, .ref (gA G 61)), (1, .int x1), (2, .int x2)]) (hF : f_X9_remembers_15 x1 x2 σ  = some o), W p l e (headSpec wsX9_remembers ({ frames := 3, cells := 0, slots := 0, locals := 67 })).room s m ([.ref (gA G 61), .int x1, .int x2] : List Value).toArray below meth c H locs 0 0 (MQ below (qR G (some (.int o)) σ) ([.ref (gA G 61), .int x1, .int x2] : List Value).toArray s 0 0 (AG G)) (F0 m 15 ls []) := by
    intro  H locs hP hS ls hl hF
    rw [f_X9_remembers_15_e] at hF
    refine lv_iconst (v := -1) hx hb dX9_remembers_15 (by decide) ?_
    refine lv_goto (tgt := 36) hx hb dX9_remembers_16 (by decide) ?_
    exact e_iP hx hb hr hP hS hlocks dX9_remembers_36 hF
  refine lv_if_eq (tgt := 15) hx hb dX9_remembers_4 (by decide) (fun c1 => ?_) (fun c1 => ?_)
  · have hF := ite_f (b2i_e0 c1) hF
    exact J15  _ _ hP hS ls (lv_sub hl [0, 1, 2] rfl) hF
  · have hF := ite_t (b2i_n0 c1) hF
    refine lv_aload_n hx hb dX9_remembers_7 rfl (lv_at hl 0 rfl) ?_
    refine lv_iload_n hx hb dX9_remembers_8 rfl (lv_at hl 2 rfl) ?_
    obtain ⟨q2, h3, hF⟩ := ob_some hF
    refine k_Vv (As := [.int x2]) (rest := []) Z hK hP hS (t_X9_isDeed l G hG x2 σ _ h3) (cwV 1 hts gX9_remembers_X9_isDeed rfl rfl rfl (by decide +kernel) ⟨Nat.le_of_ble_eq_true rfl, Nat.le_of_ble_eq_true rfl⟩) (at_5 rfl) rfl rfl hl.1 rfl (Nat.le_of_ble_eq_true rfl) ⟨Nat.zero_le _, Nat.zero_le _⟩ dX9_remembers_9 (fun H locs hP hS => ?_)
    refine lv_if_ne (tgt := 19) hx hb dX9_remembers_12 (by decide) (fun c4 => ?_) (fun c4 => ?_)
    · have hF := ite_t (b2i_n0 c4) hF
      refine lv_aload_n hx hb dX9_remembers_19 rfl (lv_at hl 0 rfl) ?_
      refine va_get (ci := 5) (C := RX9) (T := TX9) (N := 21) (v := .ref (gA G 62)) hx hb hts inX9 hown hK.1 hP 61 (at_5 rfl) rfl 0 (by decide) w1 (fun _ h9 => h9) rfl dX9_remembers_20 ?_
      refine lv_iload_n hx hb dX9_remembers_23 rfl (lv_at hl 1 rfl) ?_
      refine lv_iload_n hx hb dX9_remembers_24 rfl (lv_at hl 2 rfl) ?_
      obtain ⟨q5, h6, hF⟩ := ob_some hF
      refine k_Sv (As := [.ref (gA G 62), .int x1, .int x2]) (rest := []) Z hK hP hS (t_X9_hasIt l G hG 62 x1 x2 ⟨(rfl : kd 62 = 6), (rfl : ln 62 = 52)⟩ σ _ h6) (va_cwS 3 hts gX9_remembers_X9_hasIt rfl rfl rfl (by decide +kernel) ⟨Nat.le_of_ble_eq_true rfl, Nat.le_of_ble_eq_true rfl⟩) rfl hl.1 rfl (Nat.le_of_ble_eq_true rfl) ⟨Nat.zero_le _, Nat.zero_le _⟩ dX9_remembers_25 (fun H locs hP hS => ?_)
      refine lv_if_eq (tgt := 35) hx hb dX9_remembers_28 (by decide) (fun c7 => ?_) (fun c7 => ?_)
      · have hF := ite_f (b2i_e0 c7) hF
        refine lv_iconst (v := 0) hx hb dX9_remembers_35 (by decide) ?_
        exact e_iP hx hb hr hP hS hlocks dX9_remembers_36 hF
      · have hF := ite_t (b2i_n0 c7) hF
        refine lv_iconst (v := 1) hx hb dX9_remembers_31 (by decide) ?_
        refine lv_goto (tgt := 36) hx hb dX9_remembers_32 (by decide) ?_
        exact e_iP hx hb hr hP hS hlocks dX9_remembers_36 hF
    · have hF := ite_f (b2i_e0 c4) hF
      exact J15  _ _ hP hS ls (lv_sub hl [0, 1, 2] rfl) hF
def f_X9_knows (x1 : Int32) (σ : St) : Option Int32 := (if (f_X9_isPerson x1) = true then (ob (f_X9_knowsIn 62 x1 σ) (fun q2 => some q2)) else (some (-1 : Int32)))
set_option maxRecDepth 100000 in
set_option maxHeartbeats 4000000 in
theorem t_X9_knows (l : Launch) (G : GT) (hG : Dw G) (x1 : Int32) (σ : St) (o : Int32) (hF : f_X9_knows x1 σ = some o) : Ct l G yX9_knows wsX9_knows 4 90 [.ref (gA G 61), .int x1] σ (some (.int o)) σ := by
  refine Met.ofW (cc := cX9_knows) (maxL := 2) (ret := (some .int)) (by decide) rfl ?_
  intro p e s m args below meth c s₁ B hml hv
  obtain ⟨rfl, hP, hK⟩ := hv
  have hx := B.exec
  have hb := B.bytes
  have hr := B.returns
  have hts := atoms_spec (ws := wsX9_knows) B.pre
  have hown : s.vm.findClass RX9 = some m.cls := findClass_of_methodNamed B.named
  have hlocks := B.notSynchronized
  have Z : CallFix p m c cX9_knows 2 s _ wsX9_knows RX9 := ⟨hx, hb, hml, hown, hts⟩
  have hS : va_S (AG G) s.heap s.heap [] := va_S.rf
  have inX9 : ∀ w ∈ u_ws RX9 TX9 21, w ∈ wsX9_knows := by decide +kernel
  have w1 := hts (.fieldLink RX9 9 "AlmanacOfTheYearGoneModel" "s" "[I") (by decide +kernel)
  have hl := lv_entry ([.ref (gA G 61), .int x1]) (n := 2) (Nat.le_of_ble_eq_true rfl)
  rw [lg_entry_eq]
  generalize (lg_sl ([.ref (gA G 61), .int x1]) ++ List.replicate (2 - (lg_sl ([.ref (gA G 61), .int x1])).length) Slot.unset).toArray = ls at hl ⊢
  have hl : lv_has ls 2 [(0, .ref (gA G 61)), (1, .int x1)] := hl
  unfold f_X9_knows at hF
  refine lv_iload_n hx hb dX9_knows_0 rfl (lv_at hl 1 rfl) ?_
  refine k_Sv (As := [.int x1]) (rest := []) Z hK hP hS (t_X9_isPerson l G hG x1 σ) (va_cwS 1 hts gX9_knows_X9_isPerson rfl rfl rfl (by decide +kernel) ⟨Nat.le_of_ble_eq_true rfl, Nat.le_of_ble_eq_true rfl⟩) rfl hl.1 rfl (Nat.le_of_ble_eq_true rfl) ⟨Nat.zero_le _, Nat.zero_le _⟩ dX9_knows_1 (fun H locs hP hS => ?_)
  refine lv_if_eq (tgt := 18) hx hb dX9_knows_4 (by decide) (fun c1 => ?_) (fun c1 => ?_)
  · have hF := ite_f (b2i_e0 c1) hF
    refine lv_iconst (v := -1) hx hb dX9_knows_18 (by decide) ?_
    exact e_iP hx hb hr hP hS hlocks dX9_knows_19 hF
  · have hF := ite_t (b2i_n0 c1) hF
    refine lv_aload_n hx hb dX9_knows_7 rfl (lv_at hl 0 rfl) ?_
    refine va_get (ci := 5) (C := RX9) (T := TX9) (N := 21) (v := .ref (gA G 62)) hx hb hts inX9 hown hK.1 hP 61 (at_5 rfl) rfl 0 (by decide) w1 (fun _ h9 => h9) rfl dX9_knows_8 ?_
    refine lv_iload_n hx hb dX9_knows_11 rfl (lv_at hl 1 rfl) ?_
    obtain ⟨q2, h3, hF⟩ := ob_some hF
    refine k_Sv (As := [.ref (gA G 62), .int x1]) (rest := []) Z hK hP hS (t_X9_knowsIn l G hG 62 x1 ⟨(rfl : kd 62 = 6), (rfl : ln 62 = 52)⟩ σ _ h3) (va_cwS 2 hts gX9_knows_X9_knowsIn rfl rfl rfl (by decide +kernel) ⟨Nat.le_of_ble_eq_true rfl, Nat.le_of_ble_eq_true rfl⟩) rfl hl.1 rfl (Nat.le_of_ble_eq_true rfl) ⟨Nat.zero_le _, Nat.zero_le _⟩ dX9_knows_12 (fun H locs hP hS => ?_)
    refine lv_goto (tgt := 19) hx hb dX9_knows_15 (by decide) ?_
    exact e_iP hx hb hr hP hS hlocks dX9_knows_19 hF
def f_X9_forgotten_44 (σ : St) (rec4 : Int32 → Int32 → Option Int32) (v2 : Int32) (z0 : Int32) (z1 : Int32) : Option Int32 := (rec4 (z0 ||| z1) (v2 + (1 : Int32)))
theorem f_X9_forgotten_44_e {σ : St} {rec4 : Int32 → Int32 → Option Int32} {v2 : Int32} {z0 : Int32} {z1 : Int32} : f_X9_forgotten_44 σ rec4 v2 z0 z1 = (rec4 (z0 ||| z1) (v2 + (1 : Int32))) := rfl
def f_X9_forgotten_43 (σ : St) (rec4 : Int32 → Int32 → Option Int32) (v2 : Int32) (z0 : Int32) : Option Int32 := (f_X9_forgotten_44 σ rec4 v2 z0 (0 : Int32))
theorem f_X9_forgotten_43_e {σ : St} {rec4 : Int32 → Int32 → Option Int32} {v2 : Int32} {z0 : Int32} : f_X9_forgotten_43 σ rec4 v2 z0 = (f_X9_forgotten_44 σ rec4 v2 z0 (0 : Int32)) := rfl
def f_X9_forgotten_4 (σ : St) : Nat → (Int32 → Int32 → Option Int32)
  | 0 => fun _ _ => none
  | fl + 1 => fun v1 v2 => (if (σ 62 0) ≤ v2 then (some v1) else (ob (f_X9_isTold 62 v2 σ) (fun q2 => if q2 = true then (ob (f_X9_whoHas 62 v2 σ) (fun q5 => if q5 = 0 then (f_X9_forgotten_44 σ (f_X9_forgotten_4 σ fl) v2 v1 ((1 : Int32) <<< (v2 &&& 31))) else f_X9_forgotten_43 σ (f_X9_forgotten_4 σ fl) v2 v1)) else f_X9_forgotten_43 σ (f_X9_forgotten_4 σ fl) v2 v1)))
theorem f_X9_forgotten_4_s {σ : St} (fl : Nat) {v1 : Int32} {v2 : Int32} : f_X9_forgotten_4 σ (fl + 1) v1 v2 = (if (σ 62 0) ≤ v2 then (some v1) else (ob (f_X9_isTold 62 v2 σ) (fun q2 => if q2 = true then (ob (f_X9_whoHas 62 v2 σ) (fun q5 => if q5 = 0 then (f_X9_forgotten_44 σ (f_X9_forgotten_4 σ fl) v2 v1 ((1 : Int32) <<< (v2 &&& 31))) else f_X9_forgotten_43 σ (f_X9_forgotten_4 σ fl) v2 v1)) else f_X9_forgotten_43 σ (f_X9_forgotten_4 σ fl) v2 v1))) := rfl
def f_X9_forgotten (σ : St) : Option Int32 := (f_X9_forgotten_4 σ fu (0 : Int32) (0 : Int32))
set_option maxRecDepth 100000 in
set_option maxHeartbeats 4000000 in
theorem t_X9_forgotten (l : Launch) (G : GT) (hG : Dw G) (σ : St) (o : Int32) (hF : f_X9_forgotten σ = some o) : Ct l G yX9_forgotten wsX9_forgotten 4 90 [.ref (gA G 61)] σ (some (.int o)) σ := by
  refine Met.ofW (cc := cX9_forgotten) (maxL := 3) (ret := (some .int)) (by decide) rfl ?_
  intro p e s m args below meth c s₁ B hml hv
  obtain ⟨rfl, hP, hK⟩ := hv
  have hx := B.exec
  have hb := B.bytes
  have hr := B.returns
  have hts := atoms_spec (ws := wsX9_forgotten) B.pre
  have hown : s.vm.findClass RX9 = some m.cls := findClass_of_methodNamed B.named
  have hlocks := B.notSynchronized
  have Z : CallFix p m c cX9_forgotten 3 s _ wsX9_forgotten RX9 := ⟨hx, hb, hml, hown, hts⟩
  have hS : va_S (AG G) s.heap s.heap [] := va_S.rf
  have inX9 : ∀ w ∈ u_ws RX9 TX9 21, w ∈ wsX9_forgotten := by decide +kernel
  have w1 := hts (.fieldLink RX9 9 "AlmanacOfTheYearGoneModel" "s" "[I") (by decide +kernel)
  have hl := lv_entry ([.ref (gA G 61)]) (n := 3) (Nat.le_of_ble_eq_true rfl)
  rw [lg_entry_eq]
  generalize (lg_sl ([.ref (gA G 61)]) ++ List.replicate (3 - (lg_sl ([.ref (gA G 61)])).length) Slot.unset).toArray = ls at hl ⊢
  have hl : lv_has ls 3 [(0, .ref (gA G 61))] := hl
  unfold f_X9_forgotten at hF
  refine lv_iconst (v := 0) hx hb dX9_forgotten_0 (by decide) ?_
  refine lv_istore_n (lv' := [(1, .int (0 : Int32)), (0, .ref (gA G 61))]) hx hb dX9_forgotten_1 rfl hl (by decide) rfl (fun ls hl => ?_)
  refine lv_iconst (v := 0) hx hb dX9_forgotten_2 (by decide) ?_
  have J4 : ∀ (fl : Nat) (v1 : Int32) (v2 : Int32) (H : Heap) (locs : List Loc) (hP : Pw G σ H) (hS : va_S (AG G) s.heap H locs) (ls : Array Slot) (hl : lv_has ls 3 [(0, .ref (gA G 61)), (1, .int v1), (2, .int v2)]) (hF : f_X9_forgotten_4 σ fl v1 v2 = some o), W p l e (headSpec wsX9_forgotten ({ frames := 4, cells := 0, slots := 0, locals := 90 })).room s m ([.ref (gA G 61)] : List Value).toArray below meth c H locs 0 0 (MQ below (qR G (some (.int o)) σ) ([.ref (gA G 61)] : List Value).toArray s 0 0 (AG G)) (F0 m 4 ls []) := by
    intro fl4
    induction fl4 with
    | zero => intro v1 v2 H locs hP hS ls hl hF; cases hF
    | succ fl4 ih4 =>
      intro v1 v2 H locs hP hS ls hl hF
      rw [f_X9_forgotten_4_s] at hF
      refine lv_iload_n hx hb dX9_forgotten_4 rfl (lv_at hl 2 rfl) ?_
      refine lv_aload_n hx hb dX9_forgotten_5 rfl (lv_at hl 0 rfl) ?_
      refine va_get (ci := 5) (C := RX9) (T := TX9) (N := 21) (v := .ref (gA G 62)) hx hb hts inX9 hown hK.1 hP 61 (at_5 rfl) rfl 0 (by decide) w1 (fun _ h9 => h9) rfl dX9_forgotten_6 ?_
      refine lv_iconst (v := 0) hx hb dX9_forgotten_9 (by decide) ?_
      refine va_iald hx hb hK.1 hP 62 0 (at_6 (rfl : kd 62 = 6) (rfl : ln 62 = 52)) rfl (inb_in (by decide)) dX9_forgotten_10 ?_
      refine W.eq (g2 := F0 m 11 ls ([.int (σ 62 0), .int v2])) rfl ?_
      refine lv_icmp_ge (tgt := 52) hx hb dX9_forgotten_11 (by decide) (fun c1 => ?_) (fun c1 => ?_)
      · have hF := ite_t c1 hF
        refine lv_iload_n hx hb dX9_forgotten_52 rfl (lv_at hl 1 rfl) ?_
        exact e_iP hx hb hr hP hS hlocks dX9_forgotten_53 hF
      · have hF := ite_f c1 hF
        refine lv_iload_n hx hb dX9_forgotten_14 rfl (lv_at hl 1 rfl) ?_
        refine lv_aload_n hx hb dX9_forgotten_15 rfl (lv_at hl 0 rfl) ?_
        refine va_get (ci := 5) (C := RX9) (T := TX9) (N := 21) (v := .ref (gA G 62)) hx hb hts inX9 hown hK.1 hP 61 (at_5 rfl) rfl 0 (by decide) w1 (fun _ h9 => h9) rfl dX9_forgotten_16 ?_
        refine lv_iload_n hx hb dX9_forgotten_19 rfl (lv_at hl 2 rfl) ?_
        obtain ⟨q2, h3, hF⟩ := ob_some hF
        refine k_Sv (As := [.ref (gA G 62), .int v2]) (rest := [.int v1]) Z hK hP hS (t_X9_isTold l G hG 62 v2 ⟨(rfl : kd 62 = 6), (rfl : ln 62 = 52)⟩ σ _ h3) (va_cwS 2 hts gX9_forgotten_X9_isTold rfl rfl rfl (by decide +kernel) ⟨Nat.le_of_ble_eq_true rfl, Nat.le_of_ble_eq_true rfl⟩) rfl hl.1 rfl (Nat.le_of_ble_eq_true rfl) ⟨Nat.zero_le _, Nat.zero_le _⟩ dX9_forgotten_20 (fun H locs hP hS => ?_)
        have J44 : ∀ (v2 : Int32) (z0 : Int32) (z1 : Int32) (H : Heap) (locs : List Loc) (hP : Pw G σ H) (hS : va_S (AG G) s.heap H locs) (ls : Array Slot) (hl : lv_has ls 3 [(0, .ref (gA G 61)), (2, .int v2)]) (hF : f_X9_forgotten_44 σ (f_X9_forgotten_4 σ fl4) v2 z0 z1 = some o), W p l e (headSpec wsX9_forgotten ({ frames := 4, cells := 0, slots := 0, locals := 90 })).room s m ([.ref (gA G 61)] : List Value).toArray below meth c H locs 0 0 (MQ below (qR G (some (.int o)) σ) ([.ref (gA G 61)] : List Value).toArray s 0 0 (AG G)) (F0 m 44 ls [.int z1, .int z0]) := by
          intro v2 z0 z1 H locs hP hS ls hl hF
          rw [f_X9_forgotten_44_e] at hF
          refine lv_ior hx hb dX9_forgotten_44 ?_
          refine lv_istore_n (lv' := [(1, .int (z0 ||| z1)), (0, .ref (gA G 61)), (2, .int v2)]) hx hb dX9_forgotten_45 rfl hl (by decide) rfl (fun ls hl => ?_)
          refine lv_iinc (v := (v2 + (1 : Int32))) (lv' := [(2, .int (v2 + (1 : Int32))), (1, .int (z0 ||| z1)), (0, .ref (gA G 61))]) hx hb dX9_forgotten_46 hl (k := 2) rfl rfl (by decide) rfl (fun ls hl => ?_)
          refine lv_goto (tgt := 4) hx hb dX9_forgotten_49 (by decide) ?_
          exact ih4 (z0 ||| z1) (v2 + (1 : Int32)) _ _ hP hS ls (lv_sub hl [2, 1, 0] rfl) hF
        have J43 : ∀ (v2 : Int32) (z0 : Int32) (H : Heap) (locs : List Loc) (hP : Pw G σ H) (hS : va_S (AG G) s.heap H locs) (ls : Array Slot) (hl : lv_has ls 3 [(0, .ref (gA G 61)), (2, .int v2)]) (hF : f_X9_forgotten_43 σ (f_X9_forgotten_4 σ fl4) v2 z0 = some o), W p l e (headSpec wsX9_forgotten ({ frames := 4, cells := 0, slots := 0, locals := 90 })).room s m ([.ref (gA G 61)] : List Value).toArray below meth c H locs 0 0 (MQ below (qR G (some (.int o)) σ) ([.ref (gA G 61)] : List Value).toArray s 0 0 (AG G)) (F0 m 43 ls [.int z0]) := by
          intro v2 z0 H locs hP hS ls hl hF
          rw [f_X9_forgotten_43_e] at hF
          refine lv_iconst (v := 0) hx hb dX9_forgotten_43 (by decide) ?_
          exact J44 v2 z0 (0 : Int32) _ _ hP hS ls (lv_sub hl [0, 1] rfl) hF
        refine lv_if_eq (tgt := 43) hx hb dX9_forgotten_23 (by decide) (fun c4 => ?_) (fun c4 => ?_)
        · have hF := ite_f (b2i_e0 c4) hF
          exact J43 v2 v1 _ _ hP hS ls (lv_sub hl [0, 2] rfl) hF
        · have hF := ite_t (b2i_n0 c4) hF
          refine lv_aload_n hx hb dX9_forgotten_26 rfl (lv_at hl 0 rfl) ?_
          refine va_get (ci := 5) (C := RX9) (T := TX9) (N := 21) (v := .ref (gA G 62)) hx hb hts inX9 hown hK.1 hP 61 (at_5 rfl) rfl 0 (by decide) w1 (fun _ h9 => h9) rfl dX9_forgotten_27 ?_
          refine lv_iload_n hx hb dX9_forgotten_30 rfl (lv_at hl 2 rfl) ?_
          obtain ⟨q5, h6, hF⟩ := ob_some hF
          refine k_Sv (As := [.ref (gA G 62), .int v2]) (rest := [.int v1]) Z hK hP hS (t_X9_whoHas l G hG 62 v2 ⟨(rfl : kd 62 = 6), (rfl : ln 62 = 52)⟩ σ _ h6) (va_cwS 2 hts gX9_forgotten_X9_whoHas rfl rfl rfl (by decide +kernel) ⟨Nat.le_of_ble_eq_true rfl, Nat.le_of_ble_eq_true rfl⟩) rfl hl.1 rfl (Nat.le_of_ble_eq_true rfl) ⟨Nat.zero_le _, Nat.zero_le _⟩ dX9_forgotten_31 (fun H locs hP hS => ?_)
          refine lv_if_ne (tgt := 43) hx hb dX9_forgotten_34 (by decide) (fun c7 => ?_) (fun c7 => ?_)
          · have hF := ite_f c7 hF
            exact J43 v2 v1 _ _ hP hS ls (lv_sub hl [0, 2] rfl) hF
          · have hF := ite_t c7 hF
            refine lv_iconst (v := 1) hx hb dX9_forgotten_37 (by decide) ?_
            refine lv_iload_n hx hb dX9_forgotten_38 rfl (lv_at hl 2 rfl) ?_
            refine lv_ishl hx hb dX9_forgotten_39 ?_
            refine lv_goto (tgt := 44) hx hb dX9_forgotten_40 (by decide) ?_
            exact J44 v2 v1 ((1 : Int32) <<< (v2 &&& 31)) _ _ hP hS ls (lv_sub hl [0, 2] rfl) hF
  refine lv_istore_n (lv' := [(2, .int (0 : Int32)), (1, .int (0 : Int32)), (0, .ref (gA G 61))]) hx hb dX9_forgotten_3 rfl hl (by decide) rfl (fun ls hl => ?_)
  exact J4 fu (0 : Int32) (0 : Int32) _ _ hP hS ls (lv_sub hl [2, 1, 0] rfl) hF
def f_X9_forgets_50 (x1 : Int32) (x2 : Int32) : Nat → (Int32 → St → Option (Int32 × St))
  | 0 => fun _ _ => none
  | fl + 1 => fun v3 τ => (if (365 : Int32) < v3 then (some ((-4 : Int32), τ)) else (ob (f_X9_hasIt 63 x1 x2 (up τ 63 1 v3)) (fun q11 => if q11 = true then ((f_X9_forgets_50 x1 x2 fl) (v3 + (1 : Int32)) (up τ 63 1 v3)) else (some (v3, up τ 63 1 v3)))))
theorem f_X9_forgets_50_s {x1 : Int32} {x2 : Int32} (fl : Nat) {v3 : Int32} {τ : St} : f_X9_forgets_50 x1 x2 (fl + 1) v3 τ = (if (365 : Int32) < v3 then (some ((-4 : Int32), τ)) else (ob (f_X9_hasIt 63 x1 x2 (up τ 63 1 v3)) (fun q11 => if q11 = true then ((f_X9_forgets_50 x1 x2 fl) (v3 + (1 : Int32)) (up τ 63 1 v3)) else (some (v3, up τ 63 1 v3))))) := rfl
def f_X9_forgets (x1 : Int32) (x2 : Int32) (σ : St) : Option (Int32 × St) := (if (f_X9_isPerson x1) = true then (ob (f_X9_isDeed x2 σ) (fun q2 => if q2 = true then (ob (f_X9_hasIt 62 x1 x2 σ) (fun q5 => if q5 = true then (ob (f_X9_copies 62 63 σ) (fun q8 => f_X9_forgets_50 x1 x2 fu (q8 62 1) q8)) else (some ((-3 : Int32), σ)))) else (some ((-1 : Int32), σ)))) else (some ((-1 : Int32), σ)))
set_option maxRecDepth 100000 in
set_option maxHeartbeats 4000000 in
theorem t_X9_forgets (l : Launch) (G : GT) (hG : Dw G) (x1 : Int32) (x2 : Int32) (σ : St) (o : Int32 × St) (hF : f_X9_forgets x1 x2 σ = some o) : Ct l G yX9_forgets wsX9_forgets 3 67 [.ref (gA G 61), .int x1, .int x2] σ (some (.int o.1)) o.2 := by
  refine Met.ofW (cc := cX9_forgets) (maxL := 4) (ret := (some .int)) (by decide) rfl ?_
  intro p e s m args below meth c s₁ B hml hv
  obtain ⟨rfl, hP, hK⟩ := hv
  have hx := B.exec
  have hb := B.bytes
  have hr := B.returns
  have hts := atoms_spec (ws := wsX9_forgets) B.pre
  have hown : s.vm.findClass RX9 = some m.cls := findClass_of_methodNamed B.named
  have hlocks := B.notSynchronized
  have Z : CallFix p m c cX9_forgets 4 s _ wsX9_forgets RX9 := ⟨hx, hb, hml, hown, hts⟩
  have hS : va_S (AG G) s.heap s.heap [] := va_S.rf
  have inX9 : ∀ w ∈ u_ws RX9 TX9 21, w ∈ wsX9_forgets := by decide +kernel
  have w1 := hts (.fieldLink RX9 9 "AlmanacOfTheYearGoneModel" "s" "[I") (by decide +kernel)
  have w2 := hts (.fieldLink RX9 13 "AlmanacOfTheYearGoneModel" "m" "[I") (by decide +kernel)
  have hl := lv_entry ([.ref (gA G 61), .int x1, .int x2]) (n := 4) (Nat.le_of_ble_eq_true rfl)
  rw [lg_entry_eq]
  generalize (lg_sl ([.ref (gA G 61), .int x1, .int x2]) ++ List.replicate (4 - (lg_sl ([.ref (gA G 61), .int x1, .int x2])).length) Slot.unset).toArray = ls at hl ⊢
  have hl : lv_has ls 4 [(0, .ref (gA G 61)), (1, .int x1), (2, .int x2)] := hl
  unfold f_X9_forgets at hF
  refine lv_iload_n hx hb dX9_forgets_0 rfl (lv_at hl 1 rfl) ?_
  refine k_Sv (As := [.int x1]) (rest := []) Z hK hP hS (t_X9_isPerson l G hG x1 σ) (va_cwS 1 hts gX9_forgets_X9_isPerson rfl rfl rfl (by decide +kernel) ⟨Nat.le_of_ble_eq_true rfl, Nat.le_of_ble_eq_true rfl⟩) rfl hl.1 rfl (Nat.le_of_ble_eq_true rfl) ⟨Nat.zero_le _, Nat.zero_le _⟩ dX9_forgets_1 (fun H locs hP hS => ?_)
  refine lv_if_eq (tgt := 15) hx hb dX9_forgets_4 (by decide) (fun c1 => ?_) (fun c1 => ?_)
  · have hF := ite_f (b2i_e0 c1) hF
    refine lv_iconst (v := -1) hx hb dX9_forgets_15 (by decide) ?_
    exact e_iS hx hb hr hP hS hlocks dX9_forgets_16 hF
  · have hF := ite_t (b2i_n0 c1) hF
    refine lv_aload_n hx hb dX9_forgets_7 rfl (lv_at hl 0 rfl) ?_
    refine lv_iload_n hx hb dX9_forgets_8 rfl (lv_at hl 2 rfl) ?_
    obtain ⟨q2, h3, hF⟩ := ob_some hF
    refine k_Vv (As := [.int x2]) (rest := []) Z hK hP hS (t_X9_isDeed l G hG x2 σ _ h3) (cwV 1 hts gX9_forgets_X9_isDeed rfl rfl rfl (by decide +kernel) ⟨Nat.le_of_ble_eq_true rfl, Nat.le_of_ble_eq_true rfl⟩) (at_5 rfl) rfl rfl hl.1 rfl (Nat.le_of_ble_eq_true rfl) ⟨Nat.zero_le _, Nat.zero_le _⟩ dX9_forgets_9 (fun H locs hP hS => ?_)
    refine lv_if_ne (tgt := 17) hx hb dX9_forgets_12 (by decide) (fun c4 => ?_) (fun c4 => ?_)
    · have hF := ite_t (b2i_n0 c4) hF
      refine lv_aload_n hx hb dX9_forgets_17 rfl (lv_at hl 0 rfl) ?_
      refine va_get (ci := 5) (C := RX9) (T := TX9) (N := 21) (v := .ref (gA G 62)) hx hb hts inX9 hown hK.1 hP 61 (at_5 rfl) rfl 0 (by decide) w1 (fun _ h9 => h9) rfl dX9_forgets_18 ?_
      refine lv_iload_n hx hb dX9_forgets_21 rfl (lv_at hl 1 rfl) ?_
      refine lv_iload_n hx hb dX9_forgets_22 rfl (lv_at hl 2 rfl) ?_
      obtain ⟨q5, h6, hF⟩ := ob_some hF
      refine k_Sv (As := [.ref (gA G 62), .int x1, .int x2]) (rest := []) Z hK hP hS (t_X9_hasIt l G hG 62 x1 x2 ⟨(rfl : kd 62 = 6), (rfl : ln 62 = 52)⟩ σ _ h6) (va_cwS 3 hts gX9_forgets_X9_hasIt rfl rfl rfl (by decide +kernel) ⟨Nat.le_of_ble_eq_true rfl, Nat.le_of_ble_eq_true rfl⟩) rfl hl.1 rfl (Nat.le_of_ble_eq_true rfl) ⟨Nat.zero_le _, Nat.zero_le _⟩ dX9_forgets_23 (fun H locs hP hS => ?_)
      refine lv_if_ne (tgt := 32) hx hb dX9_forgets_26 (by decide) (fun c7 => ?_) (fun c7 => ?_)
      · have hF := ite_t (b2i_n0 c7) hF
        refine lv_aload_n hx hb dX9_forgets_32 rfl (lv_at hl 0 rfl) ?_
        refine va_get (ci := 5) (C := RX9) (T := TX9) (N := 21) (v := .ref (gA G 62)) hx hb hts inX9 hown hK.1 hP 61 (at_5 rfl) rfl 0 (by decide) w1 (fun _ h9 => h9) rfl dX9_forgets_33 ?_
        refine lv_aload_n hx hb dX9_forgets_36 rfl (lv_at hl 0 rfl) ?_
        refine va_get (ci := 5) (C := RX9) (T := TX9) (N := 21) (v := .ref (gA G 63)) hx hb hts inX9 hown hK.1 hP 61 (at_5 rfl) rfl 1 (by decide) w2 (fun _ h9 => h9) rfl dX9_forgets_37 ?_
        obtain ⟨q8, h9, hF⟩ := ob_some hF
        refine k_S0 (As := [.ref (gA G 62), .ref (gA G 63)]) (rest := []) Z hK hP hS (t_X9_copies l G hG 62 63 ⟨(rfl : kd 62 = 6), (rfl : ln 62 = 52)⟩ ⟨(rfl : kd 63 = 6), (rfl : ln 63 = 52)⟩ σ _ h9) (va_cwS 2 hts gX9_forgets_X9_copies rfl rfl rfl (by decide +kernel) ⟨Nat.le_of_ble_eq_true rfl, Nat.le_of_ble_eq_true rfl⟩) rfl hl.1 rfl (Nat.le_of_ble_eq_true rfl) ⟨Nat.zero_le _, Nat.zero_le _⟩ dX9_forgets_40 (fun H locs hP hS => ?_)
        refine lv_aload_n hx hb dX9_forgets_43 rfl (lv_at hl 0 rfl) ?_
        refine va_get (ci := 5) (C := RX9) (T := TX9) (N := 21) (v := .ref (gA G 62)) hx hb hts inX9 hown hK.1 hP 61 (at_5 rfl) rfl 0 (by decide) w1 (fun _ h9 => h9) rfl dX9_forgets_44 ?_
        refine lv_iconst (v := 1) hx hb dX9_forgets_47 (by decide) ?_
        refine va_iald hx hb hK.1 hP 62 0 (at_6 (rfl : kd 62 = 6) (rfl : ln 62 = 52)) rfl (inb_in (by decide)) dX9_forgets_48 ?_
        refine W.eq (g2 := F0 m 49 ls ([.int (q8 62 1)])) rfl ?_
        have J50 : ∀ (fl : Nat) (v3 : Int32) (τ : St) (H : Heap) (locs : List Loc) (hP : Pw G τ H) (hS : va_S (AG G) s.heap H locs) (ls : Array Slot) (hl : lv_has ls 4 [(0, .ref (gA G 61)), (1, .int x1), (2, .int x2), (3, .int v3)]) (hF : f_X9_forgets_50 x1 x2 fl v3 τ = some o), W p l e (headSpec wsX9_forgets ({ frames := 3, cells := 0, slots := 0, locals := 67 })).room s m ([.ref (gA G 61), .int x1, .int x2] : List Value).toArray below meth c H locs 0 0 (MQ below (qR G (some (.int o.1)) o.2) ([.ref (gA G 61), .int x1, .int x2] : List Value).toArray s 0 0 (AG G)) (F0 m 50 ls []) := by
          intro fl50
          induction fl50 with
          | zero => intro v3 τ H locs hP hS ls hl hF; cases hF
          | succ fl50 ih50 =>
            intro v3 τ H locs hP hS ls hl hF
            rw [f_X9_forgets_50_s] at hF
            refine lv_iload_n hx hb dX9_forgets_50 rfl (lv_at hl 3 rfl) ?_
            refine lv_sipush (v := 365) hx hb dX9_forgets_51 (by decide) ?_
            refine lv_icmp_gt (tgt := 84) hx hb dX9_forgets_54 (by decide) (fun c10 => ?_) (fun c10 => ?_)
            · have hF := ite_t c10 hF
              refine lv_bipush (v := -4) hx hb dX9_forgets_84 (by decide) ?_
              exact e_iS hx hb hr hP hS hlocks dX9_forgets_86 hF
            · have hF := ite_f c10 hF
              refine lv_aload_n hx hb dX9_forgets_57 rfl (lv_at hl 0 rfl) ?_
              refine va_get (ci := 5) (C := RX9) (T := TX9) (N := 21) (v := .ref (gA G 63)) hx hb hts inX9 hown hK.1 hP 61 (at_5 rfl) rfl 1 (by decide) w2 (fun _ h9 => h9) rfl dX9_forgets_58 ?_
              refine lv_iconst (v := 1) hx hb dX9_forgets_61 (by decide) ?_
              refine lv_iload_n hx hb dX9_forgets_62 rfl (lv_at hl 3 rfl) ?_
              refine va_iast hx hb hK.1 hP (Dw.D hG) hS 63 0 (at_6 (rfl : kd 63 = 6) (rfl : ln 63 = 52)) rfl (inb_in (by decide)) dX9_forgets_63 (fun H locs hP _ hS => ?_)
              have hP : Pw G (up τ 63 1 v3) H := Pw.of hP (set_6 (rfl : kd 63 = 6) (rfl : ln 63 = 52))
              refine lv_aload_n hx hb dX9_forgets_64 rfl (lv_at hl 0 rfl) ?_
              refine va_get (ci := 5) (C := RX9) (T := TX9) (N := 21) (v := .ref (gA G 63)) hx hb hts inX9 hown hK.1 hP 61 (at_5 rfl) rfl 1 (by decide) w2 (fun _ h9 => h9) rfl dX9_forgets_65 ?_
              refine lv_iload_n hx hb dX9_forgets_68 rfl (lv_at hl 1 rfl) ?_
              refine lv_iload_n hx hb dX9_forgets_69 rfl (lv_at hl 2 rfl) ?_
              obtain ⟨q11, h12, hF⟩ := ob_some hF
              refine k_Sv (As := [.ref (gA G 63), .int x1, .int x2]) (rest := []) Z hK hP hS (t_X9_hasIt l G hG 63 x1 x2 ⟨(rfl : kd 63 = 6), (rfl : ln 63 = 52)⟩ (up τ 63 1 v3) _ h12) (va_cwS 3 hts gX9_forgets_X9_hasIt rfl rfl rfl (by decide +kernel) ⟨Nat.le_of_ble_eq_true rfl, Nat.le_of_ble_eq_true rfl⟩) rfl hl.1 rfl (Nat.le_of_ble_eq_true rfl) ⟨Nat.zero_le _, Nat.zero_le _⟩ dX9_forgets_70 (fun H locs hP hS => ?_)
              refine lv_if_ne (tgt := 78) hx hb dX9_forgets_73 (by decide) (fun c13 => ?_) (fun c13 => ?_)
              · have hF := ite_t (b2i_n0 c13) hF
                refine lv_iinc (v := (v3 + (1 : Int32))) (lv' := [(3, .int (v3 + (1 : Int32))), (0, .ref (gA G 61)), (1, .int x1), (2, .int x2)]) hx hb dX9_forgets_78 hl (k := 3) rfl rfl (by decide) rfl (fun ls hl => ?_)
                refine lv_goto (tgt := 50) hx hb dX9_forgets_81 (by decide) ?_
                exact ih50 (v3 + (1 : Int32)) (up τ 63 1 v3) _ _ hP hS ls (lv_sub hl [1, 2, 3, 0] rfl) hF
              · have hF := ite_f (b2i_e0 c13) hF
                refine lv_iload_n hx hb dX9_forgets_76 rfl (lv_at hl 3 rfl) ?_
                exact e_iS hx hb hr hP hS hlocks dX9_forgets_77 hF
        refine lv_istore_n (lv' := [(3, .int (q8 62 1)), (0, .ref (gA G 61)), (1, .int x1), (2, .int x2)]) hx hb dX9_forgets_49 rfl hl (by decide) rfl (fun ls hl => ?_)
        exact J50 fu (q8 62 1) q8 _ _ hP hS ls (lv_sub hl [1, 2, 3, 0] rfl) hF
      · have hF := ite_f (b2i_e0 c7) hF
        refine lv_bipush (v := -3) hx hb dX9_forgets_29 (by decide) ?_
        exact e_iS hx hb hr hP hS hlocks dX9_forgets_31 hF
    · have hF := ite_f (b2i_e0 c4) hF
      refine lv_iconst (v := -1) hx hb dX9_forgets_15 (by decide) ?_
      exact e_iS hx hb hr hP hS hlocks dX9_forgets_16 hF
def f_X9_only_37 (σ : St) (rec4 : Int32 → Int32 → Option Int32) (v2 : Int32) (z0 : Int32) (z1 : Int32) : Option Int32 := (rec4 (z0 ||| z1) (v2 + (1 : Int32)))
theorem f_X9_only_37_e {σ : St} {rec4 : Int32 → Int32 → Option Int32} {v2 : Int32} {z0 : Int32} {z1 : Int32} : f_X9_only_37 σ rec4 v2 z0 z1 = (rec4 (z0 ||| z1) (v2 + (1 : Int32))) := rfl
def f_X9_only_4 (σ : St) : Nat → (Int32 → Int32 → Option Int32)
  | 0 => fun _ _ => none
  | fl + 1 => fun v1 v2 => (if (σ 62 0) ≤ v2 then (some v1) else (ob (f_X9_whoHas 62 v2 σ) (fun q2 => ob (f_X9_bits q2 σ) (fun q4 => if q4 = (1 : Int32) then (f_X9_only_37 σ (f_X9_only_4 σ fl) v2 v1 ((1 : Int32) <<< (v2 &&& 31))) else (f_X9_only_37 σ (f_X9_only_4 σ fl) v2 v1 (0 : Int32))))))
theorem f_X9_only_4_s {σ : St} (fl : Nat) {v1 : Int32} {v2 : Int32} : f_X9_only_4 σ (fl + 1) v1 v2 = (if (σ 62 0) ≤ v2 then (some v1) else (ob (f_X9_whoHas 62 v2 σ) (fun q2 => ob (f_X9_bits q2 σ) (fun q4 => if q4 = (1 : Int32) then (f_X9_only_37 σ (f_X9_only_4 σ fl) v2 v1 ((1 : Int32) <<< (v2 &&& 31))) else (f_X9_only_37 σ (f_X9_only_4 σ fl) v2 v1 (0 : Int32)))))) := rfl
def f_X9_only (σ : St) : Option Int32 := (f_X9_only_4 σ fu (0 : Int32) (0 : Int32))
set_option maxRecDepth 100000 in
set_option maxHeartbeats 4000000 in
theorem t_X9_only (l : Launch) (G : GT) (hG : Dw G) (σ : St) (o : Int32) (hF : f_X9_only σ = some o) : Ct l G yX9_only wsX9_only 4 90 [.ref (gA G 61)] σ (some (.int o)) σ := by
  refine Met.ofW (cc := cX9_only) (maxL := 3) (ret := (some .int)) (by decide) rfl ?_
  intro p e s m args below meth c s₁ B hml hv
  obtain ⟨rfl, hP, hK⟩ := hv
  have hx := B.exec
  have hb := B.bytes
  have hr := B.returns
  have hts := atoms_spec (ws := wsX9_only) B.pre
  have hown : s.vm.findClass RX9 = some m.cls := findClass_of_methodNamed B.named
  have hlocks := B.notSynchronized
  have Z : CallFix p m c cX9_only 3 s _ wsX9_only RX9 := ⟨hx, hb, hml, hown, hts⟩
  have hS : va_S (AG G) s.heap s.heap [] := va_S.rf
  have inX9 : ∀ w ∈ u_ws RX9 TX9 21, w ∈ wsX9_only := by decide +kernel
  have w1 := hts (.fieldLink RX9 9 "AlmanacOfTheYearGoneModel" "s" "[I") (by decide +kernel)
  have hl := lv_entry ([.ref (gA G 61)]) (n := 3) (Nat.le_of_ble_eq_true rfl)
  rw [lg_entry_eq]
  generalize (lg_sl ([.ref (gA G 61)]) ++ List.replicate (3 - (lg_sl ([.ref (gA G 61)])).length) Slot.unset).toArray = ls at hl ⊢
  have hl : lv_has ls 3 [(0, .ref (gA G 61))] := hl
  unfold f_X9_only at hF
  refine lv_iconst (v := 0) hx hb dX9_only_0 (by decide) ?_
  refine lv_istore_n (lv' := [(1, .int (0 : Int32)), (0, .ref (gA G 61))]) hx hb dX9_only_1 rfl hl (by decide) rfl (fun ls hl => ?_)
  refine lv_iconst (v := 0) hx hb dX9_only_2 (by decide) ?_
  have J4 : ∀ (fl : Nat) (v1 : Int32) (v2 : Int32) (H : Heap) (locs : List Loc) (hP : Pw G σ H) (hS : va_S (AG G) s.heap H locs) (ls : Array Slot) (hl : lv_has ls 3 [(0, .ref (gA G 61)), (1, .int v1), (2, .int v2)]) (hF : f_X9_only_4 σ fl v1 v2 = some o), W p l e (headSpec wsX9_only ({ frames := 4, cells := 0, slots := 0, locals := 90 })).room s m ([.ref (gA G 61)] : List Value).toArray below meth c H locs 0 0 (MQ below (qR G (some (.int o)) σ) ([.ref (gA G 61)] : List Value).toArray s 0 0 (AG G)) (F0 m 4 ls []) := by
    intro fl4
    induction fl4 with
    | zero => intro v1 v2 H locs hP hS ls hl hF; cases hF
    | succ fl4 ih4 =>
      intro v1 v2 H locs hP hS ls hl hF
      rw [f_X9_only_4_s] at hF
      refine lv_iload_n hx hb dX9_only_4 rfl (lv_at hl 2 rfl) ?_
      refine lv_aload_n hx hb dX9_only_5 rfl (lv_at hl 0 rfl) ?_
      refine va_get (ci := 5) (C := RX9) (T := TX9) (N := 21) (v := .ref (gA G 62)) hx hb hts inX9 hown hK.1 hP 61 (at_5 rfl) rfl 0 (by decide) w1 (fun _ h9 => h9) rfl dX9_only_6 ?_
      refine lv_iconst (v := 0) hx hb dX9_only_9 (by decide) ?_
      refine va_iald hx hb hK.1 hP 62 0 (at_6 (rfl : kd 62 = 6) (rfl : ln 62 = 52)) rfl (inb_in (by decide)) dX9_only_10 ?_
      refine W.eq (g2 := F0 m 11 ls ([.int (σ 62 0), .int v2])) rfl ?_
      refine lv_icmp_ge (tgt := 45) hx hb dX9_only_11 (by decide) (fun c1 => ?_) (fun c1 => ?_)
      · have hF := ite_t c1 hF
        refine lv_iload_n hx hb dX9_only_45 rfl (lv_at hl 1 rfl) ?_
        exact e_iP hx hb hr hP hS hlocks dX9_only_46 hF
      · have hF := ite_f c1 hF
        refine lv_iload_n hx hb dX9_only_14 rfl (lv_at hl 1 rfl) ?_
        refine lv_aload_n hx hb dX9_only_15 rfl (lv_at hl 0 rfl) ?_
        refine va_get (ci := 5) (C := RX9) (T := TX9) (N := 21) (v := .ref (gA G 62)) hx hb hts inX9 hown hK.1 hP 61 (at_5 rfl) rfl 0 (by decide) w1 (fun _ h9 => h9) rfl dX9_only_16 ?_
        refine lv_iload_n hx hb dX9_only_19 rfl (lv_at hl 2 rfl) ?_
        obtain ⟨q2, h3, hF⟩ := ob_some hF
        refine k_Sv (As := [.ref (gA G 62), .int v2]) (rest := [.int v1]) Z hK hP hS (t_X9_whoHas l G hG 62 v2 ⟨(rfl : kd 62 = 6), (rfl : ln 62 = 52)⟩ σ _ h3) (va_cwS 2 hts gX9_only_X9_whoHas rfl rfl rfl (by decide +kernel) ⟨Nat.le_of_ble_eq_true rfl, Nat.le_of_ble_eq_true rfl⟩) rfl hl.1 rfl (Nat.le_of_ble_eq_true rfl) ⟨Nat.zero_le _, Nat.zero_le _⟩ dX9_only_20 (fun H locs hP hS => ?_)
        obtain ⟨q4, h5, hF⟩ := ob_some hF
        refine k_Sv (As := [.int q2]) (rest := [.int v1]) Z hK hP hS (t_X9_bits l G hG q2 σ _ h5) (va_cwS 1 hts gX9_only_X9_bits rfl rfl rfl (by decide +kernel) ⟨Nat.le_of_ble_eq_true rfl, Nat.le_of_ble_eq_true rfl⟩) rfl hl.1 rfl (Nat.le_of_ble_eq_true rfl) ⟨Nat.zero_le _, Nat.zero_le _⟩ dX9_only_23 (fun H locs hP hS => ?_)
        refine lv_iconst (v := 1) hx hb dX9_only_26 (by decide) ?_
        have J37 : ∀ (v2 : Int32) (z0 : Int32) (z1 : Int32) (H : Heap) (locs : List Loc) (hP : Pw G σ H) (hS : va_S (AG G) s.heap H locs) (ls : Array Slot) (hl : lv_has ls 3 [(0, .ref (gA G 61)), (2, .int v2)]) (hF : f_X9_only_37 σ (f_X9_only_4 σ fl4) v2 z0 z1 = some o), W p l e (headSpec wsX9_only ({ frames := 4, cells := 0, slots := 0, locals := 90 })).room s m ([.ref (gA G 61)] : List Value).toArray below meth c H locs 0 0 (MQ below (qR G (some (.int o)) σ) ([.ref (gA G 61)] : List Value).toArray s 0 0 (AG G)) (F0 m 37 ls [.int z1, .int z0]) := by
          intro v2 z0 z1 H locs hP hS ls hl hF
          rw [f_X9_only_37_e] at hF
          refine lv_ior hx hb dX9_only_37 ?_
          refine lv_istore_n (lv' := [(1, .int (z0 ||| z1)), (0, .ref (gA G 61)), (2, .int v2)]) hx hb dX9_only_38 rfl hl (by decide) rfl (fun ls hl => ?_)
          refine lv_iinc (v := (v2 + (1 : Int32))) (lv' := [(2, .int (v2 + (1 : Int32))), (1, .int (z0 ||| z1)), (0, .ref (gA G 61))]) hx hb dX9_only_39 hl (k := 2) rfl rfl (by decide) rfl (fun ls hl => ?_)
          refine lv_goto (tgt := 4) hx hb dX9_only_42 (by decide) ?_
          exact ih4 (z0 ||| z1) (v2 + (1 : Int32)) _ _ hP hS ls (lv_sub hl [2, 1, 0] rfl) hF
        refine lv_icmp_ne (tgt := 36) hx hb dX9_only_27 (by decide) (fun c6 => ?_) (fun c6 => ?_)
        · have hF := ite_f c6 hF
          refine lv_iconst (v := 0) hx hb dX9_only_36 (by decide) ?_
          exact J37 v2 v1 (0 : Int32) _ _ hP hS ls (lv_sub hl [0, 2] rfl) hF
        · have hF := ite_t c6 hF
          refine lv_iconst (v := 1) hx hb dX9_only_30 (by decide) ?_
          refine lv_iload_n hx hb dX9_only_31 rfl (lv_at hl 2 rfl) ?_
          refine lv_ishl hx hb dX9_only_32 ?_
          refine lv_goto (tgt := 37) hx hb dX9_only_33 (by decide) ?_
          exact J37 v2 v1 ((1 : Int32) <<< (v2 &&& 31)) _ _ hP hS ls (lv_sub hl [0, 2] rfl) hF
  refine lv_istore_n (lv' := [(2, .int (0 : Int32)), (1, .int (0 : Int32)), (0, .ref (gA G 61))]) hx hb dX9_only_3 rfl hl (by decide) rfl (fun ls hl => ?_)
  exact J4 fu (0 : Int32) (0 : Int32) _ _ hP hS ls (lv_sub hl [2, 1, 0] rfl) hF
def f_X9_knownBy_30 (x1 : Int32) (σ : St) (rec4 : Int32 → Int32 → Option Int32) (v3 : Int32) (z0 : Int32) (z1 : Int32) : Option Int32 := (rec4 (z0 ||| z1) (v3 + (1 : Int32)))
theorem f_X9_knownBy_30_e {x1 : Int32} {σ : St} {rec4 : Int32 → Int32 → Option Int32} {v3 : Int32} {z0 : Int32} {z1 : Int32} : f_X9_knownBy_30 x1 σ rec4 v3 z0 z1 = (rec4 (z0 ||| z1) (v3 + (1 : Int32))) := rfl
def f_X9_knownBy_4 (x1 : Int32) (σ : St) : Nat → (Int32 → Int32 → Option Int32)
  | 0 => fun _ _ => none
  | fl + 1 => fun v2 v3 => (if (5 : Int32) ≤ v3 then (some v2) else (if (f_X9_has x1 v3) = true then (ob (f_X9_knowsIn 62 v3 σ) (fun q3 => f_X9_knownBy_30 x1 σ (f_X9_knownBy_4 x1 σ fl) v3 v2 q3)) else (f_X9_knownBy_30 x1 σ (f_X9_knownBy_4 x1 σ fl) v3 v2 (0 : Int32))))
theorem f_X9_knownBy_4_s {x1 : Int32} {σ : St} (fl : Nat) {v2 : Int32} {v3 : Int32} : f_X9_knownBy_4 x1 σ (fl + 1) v2 v3 = (if (5 : Int32) ≤ v3 then (some v2) else (if (f_X9_has x1 v3) = true then (ob (f_X9_knowsIn 62 v3 σ) (fun q3 => f_X9_knownBy_30 x1 σ (f_X9_knownBy_4 x1 σ fl) v3 v2 q3)) else (f_X9_knownBy_30 x1 σ (f_X9_knownBy_4 x1 σ fl) v3 v2 (0 : Int32)))) := rfl
def f_X9_knownBy (x1 : Int32) (σ : St) : Option Int32 := (f_X9_knownBy_4 x1 σ fu (0 : Int32) (0 : Int32))
set_option maxRecDepth 100000 in
set_option maxHeartbeats 4000000 in
theorem t_X9_knownBy (l : Launch) (G : GT) (hG : Dw G) (x1 : Int32) (σ : St) (o : Int32) (hF : f_X9_knownBy x1 σ = some o) : Ct l G yX9_knownBy wsX9_knownBy 4 90 [.ref (gA G 61), .int x1] σ (some (.int o)) σ := by
  refine Met.ofW (cc := cX9_knownBy) (maxL := 4) (ret := (some .int)) (by decide) rfl ?_
  intro p e s m args below meth c s₁ B hml hv
  obtain ⟨rfl, hP, hK⟩ := hv
  have hx := B.exec
  have hb := B.bytes
  have hr := B.returns
  have hts := atoms_spec (ws := wsX9_knownBy) B.pre
  have hown : s.vm.findClass RX9 = some m.cls := findClass_of_methodNamed B.named
  have hlocks := B.notSynchronized
  have Z : CallFix p m c cX9_knownBy 4 s _ wsX9_knownBy RX9 := ⟨hx, hb, hml, hown, hts⟩
  have hS : va_S (AG G) s.heap s.heap [] := va_S.rf
  have inX9 : ∀ w ∈ u_ws RX9 TX9 21, w ∈ wsX9_knownBy := by decide +kernel
  have w1 := hts (.fieldLink RX9 9 "AlmanacOfTheYearGoneModel" "s" "[I") (by decide +kernel)
  have hl := lv_entry ([.ref (gA G 61), .int x1]) (n := 4) (Nat.le_of_ble_eq_true rfl)
  rw [lg_entry_eq]
  generalize (lg_sl ([.ref (gA G 61), .int x1]) ++ List.replicate (4 - (lg_sl ([.ref (gA G 61), .int x1])).length) Slot.unset).toArray = ls at hl ⊢
  have hl : lv_has ls 4 [(0, .ref (gA G 61)), (1, .int x1)] := hl
  unfold f_X9_knownBy at hF
  refine lv_iconst (v := 0) hx hb dX9_knownBy_0 (by decide) ?_
  refine lv_istore_n (lv' := [(2, .int (0 : Int32)), (0, .ref (gA G 61)), (1, .int x1)]) hx hb dX9_knownBy_1 rfl hl (by decide) rfl (fun ls hl => ?_)
  refine lv_iconst (v := 0) hx hb dX9_knownBy_2 (by decide) ?_
  have J4 : ∀ (fl : Nat) (v2 : Int32) (v3 : Int32) (H : Heap) (locs : List Loc) (hP : Pw G σ H) (hS : va_S (AG G) s.heap H locs) (ls : Array Slot) (hl : lv_has ls 4 [(0, .ref (gA G 61)), (1, .int x1), (2, .int v2), (3, .int v3)]) (hF : f_X9_knownBy_4 x1 σ fl v2 v3 = some o), W p l e (headSpec wsX9_knownBy ({ frames := 4, cells := 0, slots := 0, locals := 90 })).room s m ([.ref (gA G 61), .int x1] : List Value).toArray below meth c H locs 0 0 (MQ below (qR G (some (.int o)) σ) ([.ref (gA G 61), .int x1] : List Value).toArray s 0 0 (AG G)) (F0 m 4 ls []) := by
    intro fl4
    induction fl4 with
    | zero => intro v2 v3 H locs hP hS ls hl hF; cases hF
    | succ fl4 ih4 =>
      intro v2 v3 H locs hP hS ls hl hF
      rw [f_X9_knownBy_4_s] at hF
      refine lv_iload_n hx hb dX9_knownBy_4 rfl (lv_at hl 3 rfl) ?_
      refine lv_iconst (v := 5) hx hb dX9_knownBy_5 (by decide) ?_
      refine lv_icmp_ge (tgt := 38) hx hb dX9_knownBy_6 (by decide) (fun c1 => ?_) (fun c1 => ?_)
      · have hF := ite_t c1 hF
        refine lv_iload_n hx hb dX9_knownBy_38 rfl (lv_at hl 2 rfl) ?_
        exact e_iP hx hb hr hP hS hlocks dX9_knownBy_39 hF
      · have hF := ite_f c1 hF
        refine lv_iload_n hx hb dX9_knownBy_9 rfl (lv_at hl 2 rfl) ?_
        refine lv_iload_n hx hb dX9_knownBy_10 rfl (lv_at hl 1 rfl) ?_
        refine lv_iload_n hx hb dX9_knownBy_11 rfl (lv_at hl 3 rfl) ?_
        refine k_Sv (As := [.int x1, .int v3]) (rest := [.int v2]) Z hK hP hS (t_X9_has l G hG x1 v3 σ) (va_cwS 2 hts gX9_knownBy_X9_has rfl rfl rfl (by decide +kernel) ⟨Nat.le_of_ble_eq_true rfl, Nat.le_of_ble_eq_true rfl⟩) rfl hl.1 rfl (Nat.le_of_ble_eq_true rfl) ⟨Nat.zero_le _, Nat.zero_le _⟩ dX9_knownBy_12 (fun H locs hP hS => ?_)
        have J30 : ∀ (v3 : Int32) (z0 : Int32) (z1 : Int32) (H : Heap) (locs : List Loc) (hP : Pw G σ H) (hS : va_S (AG G) s.heap H locs) (ls : Array Slot) (hl : lv_has ls 4 [(0, .ref (gA G 61)), (1, .int x1), (3, .int v3)]) (hF : f_X9_knownBy_30 x1 σ (f_X9_knownBy_4 x1 σ fl4) v3 z0 z1 = some o), W p l e (headSpec wsX9_knownBy ({ frames := 4, cells := 0, slots := 0, locals := 90 })).room s m ([.ref (gA G 61), .int x1] : List Value).toArray below meth c H locs 0 0 (MQ below (qR G (some (.int o)) σ) ([.ref (gA G 61), .int x1] : List Value).toArray s 0 0 (AG G)) (F0 m 30 ls [.int z1, .int z0]) := by
          intro v3 z0 z1 H locs hP hS ls hl hF
          rw [f_X9_knownBy_30_e] at hF
          refine lv_ior hx hb dX9_knownBy_30 ?_
          refine lv_istore_n (lv' := [(2, .int (z0 ||| z1)), (0, .ref (gA G 61)), (1, .int x1), (3, .int v3)]) hx hb dX9_knownBy_31 rfl hl (by decide) rfl (fun ls hl => ?_)
          refine lv_iinc (v := (v3 + (1 : Int32))) (lv' := [(3, .int (v3 + (1 : Int32))), (2, .int (z0 ||| z1)), (0, .ref (gA G 61)), (1, .int x1)]) hx hb dX9_knownBy_32 hl (k := 3) rfl rfl (by decide) rfl (fun ls hl => ?_)
          refine lv_goto (tgt := 4) hx hb dX9_knownBy_35 (by decide) ?_
          exact ih4 (z0 ||| z1) (v3 + (1 : Int32)) _ _ hP hS ls (lv_sub hl [2, 3, 1, 0] rfl) hF
        refine lv_if_eq (tgt := 29) hx hb dX9_knownBy_15 (by decide) (fun c2 => ?_) (fun c2 => ?_)
        · have hF := ite_f (b2i_e0 c2) hF
          refine lv_iconst (v := 0) hx hb dX9_knownBy_29 (by decide) ?_
          exact J30 v3 v2 (0 : Int32) _ _ hP hS ls (lv_sub hl [0, 1, 3] rfl) hF
        · have hF := ite_t (b2i_n0 c2) hF
          refine lv_aload_n hx hb dX9_knownBy_18 rfl (lv_at hl 0 rfl) ?_
          refine va_get (ci := 5) (C := RX9) (T := TX9) (N := 21) (v := .ref (gA G 62)) hx hb hts inX9 hown hK.1 hP 61 (at_5 rfl) rfl 0 (by decide) w1 (fun _ h9 => h9) rfl dX9_knownBy_19 ?_
          refine lv_iload_n hx hb dX9_knownBy_22 rfl (lv_at hl 3 rfl) ?_
          obtain ⟨q3, h4, hF⟩ := ob_some hF
          refine k_Sv (As := [.ref (gA G 62), .int v3]) (rest := [.int v2]) Z hK hP hS (t_X9_knowsIn l G hG 62 v3 ⟨(rfl : kd 62 = 6), (rfl : ln 62 = 52)⟩ σ _ h4) (va_cwS 2 hts gX9_knownBy_X9_knowsIn rfl rfl rfl (by decide +kernel) ⟨Nat.le_of_ble_eq_true rfl, Nat.le_of_ble_eq_true rfl⟩) rfl hl.1 rfl (Nat.le_of_ble_eq_true rfl) ⟨Nat.zero_le _, Nat.zero_le _⟩ dX9_knownBy_23 (fun H locs hP hS => ?_)
          refine lv_goto (tgt := 30) hx hb dX9_knownBy_26 (by decide) ?_
          exact J30 v3 v2 q3 _ _ hP hS ls (lv_sub hl [0, 1, 3] rfl) hF
  refine lv_istore_n (lv' := [(3, .int (0 : Int32)), (2, .int (0 : Int32)), (0, .ref (gA G 61)), (1, .int x1)]) hx hb dX9_knownBy_3 rfl hl (by decide) rfl (fun ls hl => ?_)
  exact J4 fu (0 : Int32) (0 : Int32) _ _ hP hS ls (lv_sub hl [2, 3, 1, 0] rfl) hF
def f_X9_witnesses_40 (σ : St) (rec12 : Int32 → Int32 → Int32 → Option Int32) (v1 : Int32) (v2 : Int32) (v3 : Int32) : Option Int32 := (rec12 v1 v2 (v3 + (1 : Int32)))
theorem f_X9_witnesses_40_e {σ : St} {rec12 : Int32 → Int32 → Int32 → Option Int32} {v1 : Int32} {v2 : Int32} {v3 : Int32} : f_X9_witnesses_40 σ rec12 v1 v2 v3 = (rec12 v1 v2 (v3 + (1 : Int32))) := rfl
def f_X9_witnesses_12 (σ : St) : Nat → (Int32 → Int32 → Int32 → Option Int32)
  | 0 => fun _ _ _ => none
  | fl + 1 => fun v1 v2 v3 => (if (31 : Int32) ≤ v3 then (some v2) else (ob (f_X9_bits v3 σ) (fun q4 => ob (f_X9_bits v2 σ) (fun q6 => if q6 ≤ q4 then f_X9_witnesses_40 σ (f_X9_witnesses_12 σ fl) v1 v2 v3 else (ob (f_X9_knownBy v3 σ) (fun q9 => if q9 = v1 then (f_X9_witnesses_40 σ (f_X9_witnesses_12 σ fl) v1 v3 v3) else f_X9_witnesses_40 σ (f_X9_witnesses_12 σ fl) v1 v2 v3))))))
theorem f_X9_witnesses_12_s {σ : St} (fl : Nat) {v1 : Int32} {v2 : Int32} {v3 : Int32} : f_X9_witnesses_12 σ (fl + 1) v1 v2 v3 = (if (31 : Int32) ≤ v3 then (some v2) else (ob (f_X9_bits v3 σ) (fun q4 => ob (f_X9_bits v2 σ) (fun q6 => if q6 ≤ q4 then f_X9_witnesses_40 σ (f_X9_witnesses_12 σ fl) v1 v2 v3 else (ob (f_X9_knownBy v3 σ) (fun q9 => if q9 = v1 then (f_X9_witnesses_40 σ (f_X9_witnesses_12 σ fl) v1 v3 v3) else f_X9_witnesses_40 σ (f_X9_witnesses_12 σ fl) v1 v2 v3)))))) := rfl
def f_X9_witnesses (σ : St) : Option Int32 := (ob (f_X9_knownBy (31 : Int32) σ) (fun q1 => f_X9_witnesses_12 σ fu q1 (31 : Int32) (0 : Int32)))
set_option maxRecDepth 100000 in
set_option maxHeartbeats 4000000 in
theorem t_X9_witnesses (l : Launch) (G : GT) (hG : Dw G) (σ : St) (o : Int32) (hF : f_X9_witnesses σ = some o) : Ct l G yX9_witnesses wsX9_witnesses 5 113 [.ref (gA G 61)] σ (some (.int o)) σ := by
  refine Met.ofW (cc := cX9_witnesses) (maxL := 4) (ret := (some .int)) (by decide) rfl ?_
  intro p e s m args below meth c s₁ B hml hv
  obtain ⟨rfl, hP, hK⟩ := hv
  have hx := B.exec
  have hb := B.bytes
  have hr := B.returns
  have hts := atoms_spec (ws := wsX9_witnesses) B.pre
  have hown : s.vm.findClass RX9 = some m.cls := findClass_of_methodNamed B.named
  have hlocks := B.notSynchronized
  have Z : CallFix p m c cX9_witnesses 4 s _ wsX9_witnesses RX9 := ⟨hx, hb, hml, hown, hts⟩
  have hS : va_S (AG G) s.heap s.heap [] := va_S.rf
  have hl := lv_entry ([.ref (gA G 61)]) (n := 4) (Nat.le_of_ble_eq_true rfl)
  rw [lg_entry_eq]
  generalize (lg_sl ([.ref (gA G 61)]) ++ List.replicate (4 - (lg_sl ([.ref (gA G 61)])).length) Slot.unset).toArray = ls at hl ⊢
  have hl : lv_has ls 4 [(0, .ref (gA G 61))] := hl
  unfold f_X9_witnesses at hF
  refine lv_aload_n hx hb dX9_witnesses_0 rfl (lv_at hl 0 rfl) ?_
  refine lv_bipush (v := 31) hx hb dX9_witnesses_1 (by decide) ?_
  obtain ⟨q1, h2, hF⟩ := ob_some hF
  refine k_Vv (As := [.int (31 : Int32)]) (rest := []) Z hK hP hS (t_X9_knownBy l G hG (31 : Int32) σ _ h2) (cwV 1 hts gX9_witnesses_X9_knownBy rfl rfl rfl (by decide +kernel) ⟨Nat.le_of_ble_eq_true rfl, Nat.le_of_ble_eq_true rfl⟩) (at_5 rfl) rfl rfl hl.1 rfl (Nat.le_of_ble_eq_true rfl) ⟨Nat.zero_le _, Nat.zero_le _⟩ dX9_witnesses_3 (fun H locs hP hS => ?_)
  refine lv_istore_n (lv' := [(1, .int q1), (0, .ref (gA G 61))]) hx hb dX9_witnesses_6 rfl hl (by decide) rfl (fun ls hl => ?_)
  refine lv_bipush (v := 31) hx hb dX9_witnesses_7 (by decide) ?_
  refine lv_istore_n (lv' := [(2, .int (31 : Int32)), (1, .int q1), (0, .ref (gA G 61))]) hx hb dX9_witnesses_9 rfl hl (by decide) rfl (fun ls hl => ?_)
  refine lv_iconst (v := 0) hx hb dX9_witnesses_10 (by decide) ?_
  have J12 : ∀ (fl : Nat) (v1 : Int32) (v2 : Int32) (v3 : Int32) (H : Heap) (locs : List Loc) (hP : Pw G σ H) (hS : va_S (AG G) s.heap H locs) (ls : Array Slot) (hl : lv_has ls 4 [(0, .ref (gA G 61)), (1, .int v1), (2, .int v2), (3, .int v3)]) (hF : f_X9_witnesses_12 σ fl v1 v2 v3 = some o), W p l e (headSpec wsX9_witnesses ({ frames := 5, cells := 0, slots := 0, locals := 113 })).room s m ([.ref (gA G 61)] : List Value).toArray below meth c H locs 0 0 (MQ below (qR G (some (.int o)) σ) ([.ref (gA G 61)] : List Value).toArray s 0 0 (AG G)) (F0 m 12 ls []) := by
    intro fl12
    induction fl12 with
    | zero => intro v1 v2 v3 H locs hP hS ls hl hF; cases hF
    | succ fl12 ih12 =>
      intro v1 v2 v3 H locs hP hS ls hl hF
      rw [f_X9_witnesses_12_s] at hF
      refine lv_iload_n hx hb dX9_witnesses_12 rfl (lv_at hl 3 rfl) ?_
      refine lv_bipush (v := 31) hx hb dX9_witnesses_13 (by decide) ?_
      refine lv_icmp_ge (tgt := 46) hx hb dX9_witnesses_15 (by decide) (fun c3 => ?_) (fun c3 => ?_)
      · have hF := ite_t c3 hF
        refine lv_iload_n hx hb dX9_witnesses_46 rfl (lv_at hl 2 rfl) ?_
        exact e_iP hx hb hr hP hS hlocks dX9_witnesses_47 hF
      · have hF := ite_f c3 hF
        refine lv_iload_n hx hb dX9_witnesses_18 rfl (lv_at hl 3 rfl) ?_
        obtain ⟨q4, h5, hF⟩ := ob_some hF
        refine k_Sv (As := [.int v3]) (rest := []) Z hK hP hS (t_X9_bits l G hG v3 σ _ h5) (va_cwS 1 hts gX9_witnesses_X9_bits rfl rfl rfl (by decide +kernel) ⟨Nat.le_of_ble_eq_true rfl, Nat.le_of_ble_eq_true rfl⟩) rfl hl.1 rfl (Nat.le_of_ble_eq_true rfl) ⟨Nat.zero_le _, Nat.zero_le _⟩ dX9_witnesses_19 (fun H locs hP hS => ?_)
        refine lv_iload_n hx hb dX9_witnesses_22 rfl (lv_at hl 2 rfl) ?_
        obtain ⟨q6, h7, hF⟩ := ob_some hF
        refine k_Sv (As := [.int v2]) (rest := [.int q4]) Z hK hP hS (t_X9_bits l G hG v2 σ _ h7) (va_cwS 1 hts gX9_witnesses_X9_bits rfl rfl rfl (by decide +kernel) ⟨Nat.le_of_ble_eq_true rfl, Nat.le_of_ble_eq_true rfl⟩) rfl hl.1 rfl (Nat.le_of_ble_eq_true rfl) ⟨Nat.zero_le _, Nat.zero_le _⟩ dX9_witnesses_23 (fun H locs hP hS => ?_)
        have J40 : ∀ (v1 : Int32) (v2 : Int32) (v3 : Int32) (H : Heap) (locs : List Loc) (hP : Pw G σ H) (hS : va_S (AG G) s.heap H locs) (ls : Array Slot) (hl : lv_has ls 4 [(0, .ref (gA G 61)), (1, .int v1), (2, .int v2), (3, .int v3)]) (hF : f_X9_witnesses_40 σ (f_X9_witnesses_12 σ fl12) v1 v2 v3 = some o), W p l e (headSpec wsX9_witnesses ({ frames := 5, cells := 0, slots := 0, locals := 113 })).room s m ([.ref (gA G 61)] : List Value).toArray below meth c H locs 0 0 (MQ below (qR G (some (.int o)) σ) ([.ref (gA G 61)] : List Value).toArray s 0 0 (AG G)) (F0 m 40 ls []) := by
          intro v1 v2 v3 H locs hP hS ls hl hF
          rw [f_X9_witnesses_40_e] at hF
          refine lv_iinc (v := (v3 + (1 : Int32))) (lv' := [(3, .int (v3 + (1 : Int32))), (0, .ref (gA G 61)), (1, .int v1), (2, .int v2)]) hx hb dX9_witnesses_40 hl (k := 3) rfl rfl (by decide) rfl (fun ls hl => ?_)
          refine lv_goto (tgt := 12) hx hb dX9_witnesses_43 (by decide) ?_
          exact ih12 v1 v2 (v3 + (1 : Int32)) _ _ hP hS ls (lv_sub hl [1, 2, 3, 0] rfl) hF
        refine lv_icmp_ge (tgt := 40) hx hb dX9_witnesses_26 (by decide) (fun c8 => ?_) (fun c8 => ?_)
        · have hF := ite_t c8 hF
          exact J40 v1 v2 v3 _ _ hP hS ls (lv_sub hl [0, 1, 2, 3] rfl) hF
        · have hF := ite_f c8 hF
          refine lv_aload_n hx hb dX9_witnesses_29 rfl (lv_at hl 0 rfl) ?_
          refine lv_iload_n hx hb dX9_witnesses_30 rfl (lv_at hl 3 rfl) ?_
          obtain ⟨q9, h10, hF⟩ := ob_some hF
          refine k_Vv (As := [.int v3]) (rest := []) Z hK hP hS (t_X9_knownBy l G hG v3 σ _ h10) (cwV 1 hts gX9_witnesses_X9_knownBy rfl rfl rfl (by decide +kernel) ⟨Nat.le_of_ble_eq_true rfl, Nat.le_of_ble_eq_true rfl⟩) (at_5 rfl) rfl rfl hl.1 rfl (Nat.le_of_ble_eq_true rfl) ⟨Nat.zero_le _, Nat.zero_le _⟩ dX9_witnesses_31 (fun H locs hP hS => ?_)
          refine lv_iload_n hx hb dX9_witnesses_34 rfl (lv_at hl 1 rfl) ?_
          refine lv_icmp_ne (tgt := 40) hx hb dX9_witnesses_35 (by decide) (fun c11 => ?_) (fun c11 => ?_)
          · have hF := ite_f c11 hF
            exact J40 v1 v2 v3 _ _ hP hS ls (lv_sub hl [0, 1, 2, 3] rfl) hF
          · have hF := ite_t c11 hF
            refine lv_iload_n hx hb dX9_witnesses_38 rfl (lv_at hl 3 rfl) ?_
            refine lv_istore_n (lv' := [(2, .int v3), (0, .ref (gA G 61)), (1, .int v1), (3, .int v3)]) hx hb dX9_witnesses_39 rfl hl (by decide) rfl (fun ls hl => ?_)
            exact J40 v1 v3 v3 _ _ hP hS ls (lv_sub hl [1, 2, 0, 3] rfl) hF
  refine lv_istore_n (lv' := [(3, .int (0 : Int32)), (2, .int (31 : Int32)), (1, .int q1), (0, .ref (gA G 61))]) hx hb dX9_witnesses_11 rfl hl (by decide) rfl (fun ls hl => ?_)
  exact J12 fu q1 (31 : Int32) (0 : Int32) _ _ hP hS ls (lv_sub hl [3, 2, 1, 0] rfl) hF
def f_X9_place_37 (x1 : Int32) (x2 : Int32) (v3 : Int32) (τ : St) : Option (Int32 × St) := (some (v3, τ))
theorem f_X9_place_37_e {x1 : Int32} {x2 : Int32} {v3 : Int32} {τ : St} : f_X9_place_37 x1 x2 v3 τ = (some (v3, τ)) := rfl
def f_X9_place (x1 : Int32) (x2 : Int32) (σ : St) : Option (Int32 × St) := (ob (f_X9_isDeed x1 σ) (fun q1 => if q1 = true then (if (f_X9_isIn x2 (0 : Int32) (1 : Int32)) = true then (ob (f_X9_prints σ) (fun q5 => ob (f_X9_placeOf x1 q5) (fun q7 => if q7 < 0 then f_X9_place_37 x1 x2 q7 q5 else (if x2 = 0 then f_X9_place_37 x1 x2 q7 q5 else (if inb q7 10 then some (q5 67 q7.toNatClampNeg, q5) else none))))) else (some ((-1 : Int32), σ))) else (some ((-1 : Int32), σ))))
set_option maxRecDepth 100000 in
set_option maxHeartbeats 4000000 in
theorem t_X9_place (l : Launch) (G : GT) (hG : Dw G) (x1 : Int32) (x2 : Int32) (σ : St) (o : Int32 × St) (hF : f_X9_place x1 x2 σ = some o) : Ct l G yX9_place wsX9_place 4 87 [.ref (gA G 61), .int x1, .int x2] σ (some (.int o.1)) o.2 := by
  refine Met.ofW (cc := cX9_place) (maxL := 4) (ret := (some .int)) (by decide) rfl ?_
  intro p e s m args below meth c s₁ B hml hv
  obtain ⟨rfl, hP, hK⟩ := hv
  have hx := B.exec
  have hb := B.bytes
  have hr := B.returns
  have hts := atoms_spec (ws := wsX9_place) B.pre
  have hown : s.vm.findClass RX9 = some m.cls := findClass_of_methodNamed B.named
  have hlocks := B.notSynchronized
  have Z : CallFix p m c cX9_place 4 s _ wsX9_place RX9 := ⟨hx, hb, hml, hown, hts⟩
  have hS : va_S (AG G) s.heap s.heap [] := va_S.rf
  have inX9 : ∀ w ∈ u_ws RX9 TX9 21, w ∈ wsX9_place := by decide +kernel
  have w1 := hts (.fieldLink RX9 25 "AlmanacOfTheYearGoneModel" "page" "[I") (by decide +kernel)
  have hl := lv_entry ([.ref (gA G 61), .int x1, .int x2]) (n := 4) (Nat.le_of_ble_eq_true rfl)
  rw [lg_entry_eq]
  generalize (lg_sl ([.ref (gA G 61), .int x1, .int x2]) ++ List.replicate (4 - (lg_sl ([.ref (gA G 61), .int x1, .int x2])).length) Slot.unset).toArray = ls at hl ⊢
  have hl : lv_has ls 4 [(0, .ref (gA G 61)), (1, .int x1), (2, .int x2)] := hl
  unfold f_X9_place at hF
  refine lv_aload_n hx hb dX9_place_0 rfl (lv_at hl 0 rfl) ?_
  refine lv_iload_n hx hb dX9_place_1 rfl (lv_at hl 1 rfl) ?_
  obtain ⟨q1, h2, hF⟩ := ob_some hF
  refine k_Vv (As := [.int x1]) (rest := []) Z hK hP hS (t_X9_isDeed l G hG x1 σ _ h2) (cwV 1 hts gX9_place_X9_isDeed rfl rfl rfl (by decide +kernel) ⟨Nat.le_of_ble_eq_true rfl, Nat.le_of_ble_eq_true rfl⟩) (at_5 rfl) rfl rfl hl.1 rfl (Nat.le_of_ble_eq_true rfl) ⟨Nat.zero_le _, Nat.zero_le _⟩ dX9_place_2 (fun H locs hP hS => ?_)
  refine lv_if_eq (tgt := 17) hx hb dX9_place_5 (by decide) (fun c3 => ?_) (fun c3 => ?_)
  · have hF := ite_f (b2i_e0 c3) hF
    refine lv_iconst (v := -1) hx hb dX9_place_17 (by decide) ?_
    exact e_iS hx hb hr hP hS hlocks dX9_place_18 hF
  · have hF := ite_t (b2i_n0 c3) hF
    refine lv_iload_n hx hb dX9_place_8 rfl (lv_at hl 2 rfl) ?_
    refine lv_iconst (v := 0) hx hb dX9_place_9 (by decide) ?_
    refine lv_iconst (v := 1) hx hb dX9_place_10 (by decide) ?_
    refine k_Sv (As := [.int x2, .int (0 : Int32), .int (1 : Int32)]) (rest := []) Z hK hP hS (t_X9_isIn l G hG x2 (0 : Int32) (1 : Int32) σ) (va_cwS 3 hts gX9_place_X9_isIn rfl rfl rfl (by decide +kernel) ⟨Nat.le_of_ble_eq_true rfl, Nat.le_of_ble_eq_true rfl⟩) rfl hl.1 rfl (Nat.le_of_ble_eq_true rfl) ⟨Nat.zero_le _, Nat.zero_le _⟩ dX9_place_11 (fun H locs hP hS => ?_)
    refine lv_if_ne (tgt := 19) hx hb dX9_place_14 (by decide) (fun c4 => ?_) (fun c4 => ?_)
    · have hF := ite_t (b2i_n0 c4) hF
      refine lv_aload_n hx hb dX9_place_19 rfl (lv_at hl 0 rfl) ?_
      obtain ⟨q5, h6, hF⟩ := ob_some hF
      refine k_V0 (As := []) (rest := []) Z hK hP hS (t_X9_prints l G hG σ _ h6) (cwV 0 hts gX9_place_X9_prints rfl rfl rfl (by decide +kernel) ⟨Nat.le_of_ble_eq_true rfl, Nat.le_of_ble_eq_true rfl⟩) (at_5 rfl) rfl rfl hl.1 rfl (Nat.le_of_ble_eq_true rfl) ⟨Nat.zero_le _, Nat.zero_le _⟩ dX9_place_20 (fun H locs hP hS => ?_)
      refine lv_aload_n hx hb dX9_place_23 rfl (lv_at hl 0 rfl) ?_
      refine lv_iload_n hx hb dX9_place_24 rfl (lv_at hl 1 rfl) ?_
      obtain ⟨q7, h8, hF⟩ := ob_some hF
      refine k_Vv (As := [.int x1]) (rest := []) Z hK hP hS (t_X9_placeOf l G hG x1 q5 _ h8) (cwV 1 hts gX9_place_X9_placeOf rfl rfl rfl (by decide +kernel) ⟨Nat.le_of_ble_eq_true rfl, Nat.le_of_ble_eq_true rfl⟩) (at_5 rfl) rfl rfl hl.1 rfl (Nat.le_of_ble_eq_true rfl) ⟨Nat.zero_le _, Nat.zero_le _⟩ dX9_place_25 (fun H locs hP hS => ?_)
      refine lv_istore_n (lv' := [(3, .int q7), (0, .ref (gA G 61)), (1, .int x1), (2, .int x2)]) hx hb dX9_place_28 rfl hl (by decide) rfl (fun ls hl => ?_)
      refine lv_iload_n hx hb dX9_place_29 rfl (lv_at hl 0 rfl) ?_
      have J37 : ∀ (v3 : Int32) (τ : St) (H : Heap) (locs : List Loc) (hP : Pw G τ H) (hS : va_S (AG G) s.heap H locs) (ls : Array Slot) (hl : lv_has ls 4 [(0, .ref (gA G 61)), (1, .int x1), (2, .int x2), (3, .int v3)]) (hF : f_X9_place_37 x1 x2 v3 τ = some o), W p l e (headSpec wsX9_place ({ frames := 4, cells := 0, slots := 0, locals := 87 })).room s m ([.ref (gA G 61), .int x1, .int x2] : List Value).toArray below meth c H locs 0 0 (MQ below (qR G (some (.int o.1)) o.2) ([.ref (gA G 61), .int x1, .int x2] : List Value).toArray s 0 0 (AG G)) (F0 m 37 ls []) := by
        intro v3 τ H locs hP hS ls hl hF
        rw [f_X9_place_37_e] at hF
        refine lv_iload_n hx hb dX9_place_37 rfl (lv_at hl 3 rfl) ?_
        refine lv_goto (tgt := 47) hx hb dX9_place_38 (by decide) ?_
        exact e_iS hx hb hr hP hS hlocks dX9_place_47 hF
      refine lv_if_lt (tgt := 37) hx hb dX9_place_30 (by decide) (fun c9 => ?_) (fun c9 => ?_)
      · have hF := ite_t c9 hF
        exact J37 q7 q5 _ _ hP hS ls (lv_sub hl [1, 2, 3, 0] rfl) hF
      · have hF := ite_f c9 hF
        refine lv_iload_n hx hb dX9_place_33 rfl (lv_at hl 3 rfl) ?_
        refine lv_if_ne (tgt := 41) hx hb dX9_place_34 (by decide) (fun c10 => ?_) (fun c10 => ?_)
        · have hF := ite_f c10 hF
          refine lv_aload_n hx hb dX9_place_41 rfl (lv_at hl 1 rfl) ?_
          refine va_get (ci := 5) (C := RX9) (T := TX9) (N := 21) (v := .ref (gA G 67)) hx hb hts inX9 hown hK.1 hP 61 (at_5 rfl) rfl 6 (by decide) w1 (fun _ h9 => h9) rfl dX9_place_42 ?_
          refine lv_iload_n hx hb dX9_place_45 rfl (lv_at hl 0 rfl) ?_
          obtain ⟨b11, hF⟩ := ite_some hF
          refine va_iald hx hb hK.1 hP 67 0 (at_6 (rfl : kd 67 = 6) (rfl : ln 67 = 10)) rfl (inb_in b11) dX9_place_46 ?_
          exact e_iS hx hb hr hP hS hlocks dX9_place_47 hF
        · have hF := ite_t c10 hF
          exact J37 q7 q5 _ _ hP hS ls (lv_sub hl [1, 2, 3, 0] rfl) hF
    · have hF := ite_f (b2i_e0 c4) hF
      refine lv_iconst (v := -1) hx hb dX9_place_17 (by decide) ?_
      exact e_iS hx hb hr hP hS hlocks dX9_place_18 hF
def f_X9_pages (σ : St) : Option (Int32 × St) := (ob (f_X9_prints σ) (fun q1 => some (q1 61 8, q1)))
set_option maxRecDepth 100000 in
set_option maxHeartbeats 4000000 in
theorem t_X9_pages (l : Launch) (G : GT) (hG : Dw G) (σ : St) (o : Int32 × St) (hF : f_X9_pages σ = some o) : Ct l G yX9_pages wsX9_pages 4 87 [.ref (gA G 61)] σ (some (.int o.1)) o.2 := by
  refine Met.ofW (cc := cX9_pages) (maxL := 1) (ret := (some .int)) (by decide) rfl ?_
  intro p e s m args below meth c s₁ B hml hv
  obtain ⟨rfl, hP, hK⟩ := hv
  have hx := B.exec
  have hb := B.bytes
  have hr := B.returns
  have hts := atoms_spec (ws := wsX9_pages) B.pre
  have hown : s.vm.findClass RX9 = some m.cls := findClass_of_methodNamed B.named
  have hlocks := B.notSynchronized
  have Z : CallFix p m c cX9_pages 1 s _ wsX9_pages RX9 := ⟨hx, hb, hml, hown, hts⟩
  have hS : va_S (AG G) s.heap s.heap [] := va_S.rf
  have inX9 : ∀ w ∈ u_ws RX9 TX9 21, w ∈ wsX9_pages := by decide +kernel
  have w1 := hts (.fieldLink RX9 92 "AlmanacOfTheYearGoneModel" "pageMany" "I") (by decide +kernel)
  have hl := lv_entry ([.ref (gA G 61)]) (n := 1) (Nat.le_of_ble_eq_true rfl)
  rw [lg_entry_eq]
  generalize (lg_sl ([.ref (gA G 61)]) ++ List.replicate (1 - (lg_sl ([.ref (gA G 61)])).length) Slot.unset).toArray = ls at hl ⊢
  have hl : lv_has ls 1 [(0, .ref (gA G 61))] := hl
  unfold f_X9_pages at hF
  refine lv_aload_n hx hb dX9_pages_0 rfl (lv_at hl 0 rfl) ?_
  obtain ⟨q1, h2, hF⟩ := ob_some hF
  refine k_V0 (As := []) (rest := []) Z hK hP hS (t_X9_prints l G hG σ _ h2) (cwV 0 hts gX9_pages_X9_prints rfl rfl rfl (by decide +kernel) ⟨Nat.le_of_ble_eq_true rfl, Nat.le_of_ble_eq_true rfl⟩) (at_5 rfl) rfl rfl hl.1 rfl (Nat.le_of_ble_eq_true rfl) ⟨Nat.zero_le _, Nat.zero_le _⟩ dX9_pages_1 (fun H locs hP hS => ?_)
  refine lv_aload_n hx hb dX9_pages_4 rfl (lv_at hl 0 rfl) ?_
  refine va_get (ci := 5) (C := RX9) (T := TX9) (N := 21) (v := .int (q1 61 8)) hx hb hts inX9 hown hK.1 hP 61 (at_5 rfl) rfl 8 (by decide) w1 (fun _ h9 => h9) rfl dX9_pages_5 ?_
  exact e_iS hx hb hr hP hS hlocks dX9_pages_8 hF
def f_X9_looksUp_206 (x1 : Int32) (x2 : Int32) (rec126 : Int32 → Int32 → Int32 → St → Option (Int32 × St)) (v3 : Int32) (v5 : Int32) (z0 : Int32) (z1 : Int32) (τ : St) : Option (Int32 × St) := (rec126 v3 (z0 ||| z1) (v5 + (1 : Int32)) τ)
theorem f_X9_looksUp_206_e {x1 : Int32} {x2 : Int32} {rec126 : Int32 → Int32 → Int32 → St → Option (Int32 × St)} {v3 : Int32} {v5 : Int32} {z0 : Int32} {z1 : Int32} {τ : St} : f_X9_looksUp_206 x1 x2 rec126 v3 v5 z0 z1 τ = (rec126 v3 (z0 ||| z1) (v5 + (1 : Int32)) τ) := rfl
def f_X9_looksUp_205 (x1 : Int32) (x2 : Int32) (rec126 : Int32 → Int32 → Int32 → St → Option (Int32 × St)) (v3 : Int32) (v5 : Int32) (z0 : Int32) (τ : St) : Option (Int32 × St) := (f_X9_looksUp_206 x1 x2 rec126 v3 v5 z0 (0 : Int32) τ)
theorem f_X9_looksUp_205_e {x1 : Int32} {x2 : Int32} {rec126 : Int32 → Int32 → Int32 → St → Option (Int32 × St)} {v3 : Int32} {v5 : Int32} {z0 : Int32} {τ : St} : f_X9_looksUp_205 x1 x2 rec126 v3 v5 z0 τ = (f_X9_looksUp_206 x1 x2 rec126 v3 v5 z0 (0 : Int32) τ) := rfl
def f_X9_looksUp_126 (x1 : Int32) (x2 : Int32) : Nat → (Int32 → Int32 → Int32 → St → Option (Int32 × St))
  | 0 => fun _ _ _ _ => none
  | fl + 1 => fun v3 v4 v5 τ => (if (τ 61 7) ≤ v5 then (some (v4, τ)) else (if v3 < 0 then (some (v4, τ)) else (if inb v5 10 then if inb v3 10 then if (τ 67 v5.toNatClampNeg) = (τ 67 v3.toNatClampNeg) then (if inb v5 10 then ob (f_X9_wasThere 62 x1 (τ 66 v5.toNatClampNeg) τ) (fun q13 => if q13 = true then (if inb v5 10 then ob (f_X9_hasIt 62 x1 (τ 66 v5.toNatClampNeg) τ) (fun q17 => if q17 = true then f_X9_looksUp_205 x1 x2 (f_X9_looksUp_126 x1 x2 fl) v3 v5 v4 τ else (if inb v5 10 then f_X9_looksUp_206 x1 x2 (f_X9_looksUp_126 x1 x2 fl) v3 v5 v4 ((1 : Int32) <<< ((τ 66 v5.toNatClampNeg) &&& 31)) τ else none)) else none) else f_X9_looksUp_205 x1 x2 (f_X9_looksUp_126 x1 x2 fl) v3 v5 v4 τ) else none) else f_X9_looksUp_205 x1 x2 (f_X9_looksUp_126 x1 x2 fl) v3 v5 v4 τ else none else none)))
theorem f_X9_looksUp_126_s {x1 : Int32} {x2 : Int32} (fl : Nat) {v3 : Int32} {v4 : Int32} {v5 : Int32} {τ : St} : f_X9_looksUp_126 x1 x2 (fl + 1) v3 v4 v5 τ = (if (τ 61 7) ≤ v5 then (some (v4, τ)) else (if v3 < 0 then (some (v4, τ)) else (if inb v5 10 then if inb v3 10 then if (τ 67 v5.toNatClampNeg) = (τ 67 v3.toNatClampNeg) then (if inb v5 10 then ob (f_X9_wasThere 62 x1 (τ 66 v5.toNatClampNeg) τ) (fun q13 => if q13 = true then (if inb v5 10 then ob (f_X9_hasIt 62 x1 (τ 66 v5.toNatClampNeg) τ) (fun q17 => if q17 = true then f_X9_looksUp_205 x1 x2 (f_X9_looksUp_126 x1 x2 fl) v3 v5 v4 τ else (if inb v5 10 then f_X9_looksUp_206 x1 x2 (f_X9_looksUp_126 x1 x2 fl) v3 v5 v4 ((1 : Int32) <<< ((τ 66 v5.toNatClampNeg) &&& 31)) τ else none)) else none) else f_X9_looksUp_205 x1 x2 (f_X9_looksUp_126 x1 x2 fl) v3 v5 v4 τ) else none) else f_X9_looksUp_205 x1 x2 (f_X9_looksUp_126 x1 x2 fl) v3 v5 v4 τ else none else none))) := rfl
def f_X9_looksUp_94 (x1 : Int32) (x2 : Int32) (rec28 : Int32 → Int32 → St → Option (Int32 × St)) (v3 : Int32) (v4 : Int32) (τ : St) : Option (Int32 × St) := (rec28 v3 (v4 + (1 : Int32)) τ)
theorem f_X9_looksUp_94_e {x1 : Int32} {x2 : Int32} {rec28 : Int32 → Int32 → St → Option (Int32 × St)} {v3 : Int32} {v4 : Int32} {τ : St} : f_X9_looksUp_94 x1 x2 rec28 v3 v4 τ = (rec28 v3 (v4 + (1 : Int32)) τ) := rfl
def f_X9_looksUp_91 (x1 : Int32) (x2 : Int32) (rec28 : Int32 → Int32 → St → Option (Int32 × St)) (v4 : Int32) (τ : St) : Option (Int32 × St) := (f_X9_looksUp_94 x1 x2 rec28 v4 v4 τ)
theorem f_X9_looksUp_91_e {x1 : Int32} {x2 : Int32} {rec28 : Int32 → Int32 → St → Option (Int32 × St)} {v4 : Int32} {τ : St} : f_X9_looksUp_91 x1 x2 rec28 v4 τ = (f_X9_looksUp_94 x1 x2 rec28 v4 v4 τ) := rfl
def f_X9_looksUp_28 (x1 : Int32) (x2 : Int32) : Nat → (Int32 → Int32 → St → Option (Int32 × St))
  | 0 => fun _ _ _ => none
  | fl + 1 => fun v3 v4 τ => (if (τ 61 7) ≤ v4 then (if x2 = 0 then (if 0 ≤ v3 then (if inb v3 10 then some (τ 67 v3.toNatClampNeg, τ) else none) else (some ((-4 : Int32), τ))) else (f_X9_looksUp_126 x1 x2 fu v3 (0 : Int32) (0 : Int32) τ)) else (if inb v4 10 then if inb (f_X9_of (τ 66 v4.toNatClampNeg) (3 : Int32)) 52 then if (τ 62 (f_X9_of (τ 66 v4.toNatClampNeg) (3 : Int32)).toNatClampNeg) = x1 then (if v3 < 0 then f_X9_looksUp_91 x1 x2 (f_X9_looksUp_28 x1 x2 fl) v4 τ else (if inb v4 10 then ob (f_X9_sizeOf 62 (τ 66 v4.toNatClampNeg) τ) (fun q28 => if inb v3 10 then ob (f_X9_sizeOf 62 (τ 66 v3.toNatClampNeg) τ) (fun q31 => if q28 ≤ q31 then f_X9_looksUp_94 x1 x2 (f_X9_looksUp_28 x1 x2 fl) v3 v4 τ else f_X9_looksUp_91 x1 x2 (f_X9_looksUp_28 x1 x2 fl) v4 τ) else none) else none)) else f_X9_looksUp_94 x1 x2 (f_X9_looksUp_28 x1 x2 fl) v3 v4 τ else none else none))
theorem f_X9_looksUp_28_s {x1 : Int32} {x2 : Int32} (fl : Nat) {v3 : Int32} {v4 : Int32} {τ : St} : f_X9_looksUp_28 x1 x2 (fl + 1) v3 v4 τ = (if (τ 61 7) ≤ v4 then (if x2 = 0 then (if 0 ≤ v3 then (if inb v3 10 then some (τ 67 v3.toNatClampNeg, τ) else none) else (some ((-4 : Int32), τ))) else (f_X9_looksUp_126 x1 x2 fu v3 (0 : Int32) (0 : Int32) τ)) else (if inb v4 10 then if inb (f_X9_of (τ 66 v4.toNatClampNeg) (3 : Int32)) 52 then if (τ 62 (f_X9_of (τ 66 v4.toNatClampNeg) (3 : Int32)).toNatClampNeg) = x1 then (if v3 < 0 then f_X9_looksUp_91 x1 x2 (f_X9_looksUp_28 x1 x2 fl) v4 τ else (if inb v4 10 then ob (f_X9_sizeOf 62 (τ 66 v4.toNatClampNeg) τ) (fun q28 => if inb v3 10 then ob (f_X9_sizeOf 62 (τ 66 v3.toNatClampNeg) τ) (fun q31 => if q28 ≤ q31 then f_X9_looksUp_94 x1 x2 (f_X9_looksUp_28 x1 x2 fl) v3 v4 τ else f_X9_looksUp_91 x1 x2 (f_X9_looksUp_28 x1 x2 fl) v4 τ) else none) else none)) else f_X9_looksUp_94 x1 x2 (f_X9_looksUp_28 x1 x2 fl) v3 v4 τ else none else none)) := rfl
def f_X9_looksUp (x1 : Int32) (x2 : Int32) (σ : St) : Option (Int32 × St) := (if (f_X9_isPerson x1) = true then (if (f_X9_isIn x2 (0 : Int32) (1 : Int32)) = true then (ob (f_X9_prints σ) (fun q3 => f_X9_looksUp_28 x1 x2 fu (-4 : Int32) (0 : Int32) q3)) else (some ((-1 : Int32), σ))) else (some ((-1 : Int32), σ)))
set_option maxRecDepth 100000 in
set_option maxHeartbeats 4000000 in
theorem t_X9_looksUp (l : Launch) (G : GT) (hG : Dw G) (x1 : Int32) (x2 : Int32) (σ : St) (o : Int32 × St) (hF : f_X9_looksUp x1 x2 σ = some o) : Ct l G yX9_looksUp wsX9_looksUp 4 87 [.ref (gA G 61), .int x1, .int x2] σ (some (.int o.1)) o.2 := by
  refine Met.ofW (cc := cX9_looksUp) (maxL := 6) (ret := (some .int)) (by decide) rfl ?_
  intro p e s m args below meth c s₁ B hml hv
  obtain ⟨rfl, hP, hK⟩ := hv
  have hx := B.exec
  have hb := B.bytes
  have hr := B.returns
  have hts := atoms_spec (ws := wsX9_looksUp) B.pre
  have hown : s.vm.findClass RX9 = some m.cls := findClass_of_methodNamed B.named
  have hlocks := B.notSynchronized
  have Z : CallFix p m c cX9_looksUp 6 s _ wsX9_looksUp RX9 := ⟨hx, hb, hml, hown, hts⟩
  have hS : va_S (AG G) s.heap s.heap [] := va_S.rf
  have inX9 : ∀ w ∈ u_ws RX9 TX9 21, w ∈ wsX9_looksUp := by decide +kernel
  have w1 := hts (.fieldLink RX9 85 "AlmanacOfTheYearGoneModel" "toldMany" "I") (by decide +kernel)
  have w2 := hts (.fieldLink RX9 25 "AlmanacOfTheYearGoneModel" "page" "[I") (by decide +kernel)
  have w3 := hts (.fieldLink RX9 9 "AlmanacOfTheYearGoneModel" "s" "[I") (by decide +kernel)
  have w4 := hts (.fieldLink RX9 22 "AlmanacOfTheYearGoneModel" "told" "[I") (by decide +kernel)
  have hl := lv_entry ([.ref (gA G 61), .int x1, .int x2]) (n := 6) (Nat.le_of_ble_eq_true rfl)
  rw [lg_entry_eq]
  generalize (lg_sl ([.ref (gA G 61), .int x1, .int x2]) ++ List.replicate (6 - (lg_sl ([.ref (gA G 61), .int x1, .int x2])).length) Slot.unset).toArray = ls at hl ⊢
  have hl : lv_has ls 6 [(0, .ref (gA G 61)), (1, .int x1), (2, .int x2)] := hl
  unfold f_X9_looksUp at hF
  refine lv_iload_n hx hb dX9_looksUp_0 rfl (lv_at hl 1 rfl) ?_
  refine k_Sv (As := [.int x1]) (rest := []) Z hK hP hS (t_X9_isPerson l G hG x1 σ) (va_cwS 1 hts gX9_looksUp_X9_isPerson rfl rfl rfl (by decide +kernel) ⟨Nat.le_of_ble_eq_true rfl, Nat.le_of_ble_eq_true rfl⟩) rfl hl.1 rfl (Nat.le_of_ble_eq_true rfl) ⟨Nat.zero_le _, Nat.zero_le _⟩ dX9_looksUp_1 (fun H locs hP hS => ?_)
  refine lv_if_eq (tgt := 16) hx hb dX9_looksUp_4 (by decide) (fun c1 => ?_) (fun c1 => ?_)
  · have hF := ite_f (b2i_e0 c1) hF
    refine lv_iconst (v := -1) hx hb dX9_looksUp_16 (by decide) ?_
    exact e_iS hx hb hr hP hS hlocks dX9_looksUp_17 hF
  · have hF := ite_t (b2i_n0 c1) hF
    refine lv_iload_n hx hb dX9_looksUp_7 rfl (lv_at hl 2 rfl) ?_
    refine lv_iconst (v := 0) hx hb dX9_looksUp_8 (by decide) ?_
    refine lv_iconst (v := 1) hx hb dX9_looksUp_9 (by decide) ?_
    refine k_Sv (As := [.int x2, .int (0 : Int32), .int (1 : Int32)]) (rest := []) Z hK hP hS (t_X9_isIn l G hG x2 (0 : Int32) (1 : Int32) σ) (va_cwS 3 hts gX9_looksUp_X9_isIn rfl rfl rfl (by decide +kernel) ⟨Nat.le_of_ble_eq_true rfl, Nat.le_of_ble_eq_true rfl⟩) rfl hl.1 rfl (Nat.le_of_ble_eq_true rfl) ⟨Nat.zero_le _, Nat.zero_le _⟩ dX9_looksUp_10 (fun H locs hP hS => ?_)
    refine lv_if_ne (tgt := 18) hx hb dX9_looksUp_13 (by decide) (fun c2 => ?_) (fun c2 => ?_)
    · have hF := ite_t (b2i_n0 c2) hF
      refine lv_aload_n hx hb dX9_looksUp_18 rfl (lv_at hl 0 rfl) ?_
      obtain ⟨q3, h4, hF⟩ := ob_some hF
      refine k_V0 (As := []) (rest := []) Z hK hP hS (t_X9_prints l G hG σ _ h4) (cwV 0 hts gX9_looksUp_X9_prints rfl rfl rfl (by decide +kernel) ⟨Nat.le_of_ble_eq_true rfl, Nat.le_of_ble_eq_true rfl⟩) (at_5 rfl) rfl rfl hl.1 rfl (Nat.le_of_ble_eq_true rfl) ⟨Nat.zero_le _, Nat.zero_le _⟩ dX9_looksUp_19 (fun H locs hP hS => ?_)
      refine lv_bipush (v := -4) hx hb dX9_looksUp_22 (by decide) ?_
      refine lv_istore_n (lv' := [(3, .int (-4 : Int32)), (0, .ref (gA G 61)), (1, .int x1), (2, .int x2)]) hx hb dX9_looksUp_24 rfl hl (by decide) rfl (fun ls hl => ?_)
      refine lv_iconst (v := 0) hx hb dX9_looksUp_25 (by decide) ?_
      have J28 : ∀ (fl : Nat) (v3 : Int32) (v4 : Int32) (τ : St) (H : Heap) (locs : List Loc) (hP : Pw G τ H) (hS : va_S (AG G) s.heap H locs) (ls : Array Slot) (hl : lv_has ls 6 [(0, .ref (gA G 61)), (1, .int x1), (2, .int x2), (3, .int v3), (4, .int v4)]) (hF : f_X9_looksUp_28 x1 x2 fl v3 v4 τ = some o), W p l e (headSpec wsX9_looksUp ({ frames := 4, cells := 0, slots := 0, locals := 87 })).room s m ([.ref (gA G 61), .int x1, .int x2] : List Value).toArray below meth c H locs 0 0 (MQ below (qR G (some (.int o.1)) o.2) ([.ref (gA G 61), .int x1, .int x2] : List Value).toArray s 0 0 (AG G)) (F0 m 28 ls []) := by
        intro fl28
        induction fl28 with
        | zero => intro v3 v4 τ H locs hP hS ls hl hF; cases hF
        | succ fl28 ih28 =>
          intro v3 v4 τ H locs hP hS ls hl hF
          rw [f_X9_looksUp_28_s] at hF
          refine lv_iload hx hb dX9_looksUp_28 (lv_at hl 4 rfl) ?_
          refine lv_aload_n hx hb dX9_looksUp_30 rfl (lv_at hl 0 rfl) ?_
          refine va_get (ci := 5) (C := RX9) (T := TX9) (N := 21) (v := .int (τ 61 7)) hx hb hts inX9 hown hK.1 hP 61 (at_5 rfl) rfl 7 (by decide) w1 (fun _ h9 => h9) rfl dX9_looksUp_31 ?_
          refine lv_icmp_ge (tgt := 100) hx hb dX9_looksUp_34 (by decide) (fun c5 => ?_) (fun c5 => ?_)
          · have hF := ite_t c5 hF
            refine lv_iload_n hx hb dX9_looksUp_100 rfl (lv_at hl 2 rfl) ?_
            refine lv_if_ne (tgt := 120) hx hb dX9_looksUp_101 (by decide) (fun c6 => ?_) (fun c6 => ?_)
            · have hF := ite_f c6 hF
              refine lv_iconst (v := 0) hx hb dX9_looksUp_120 (by decide) ?_
              refine lv_istore (lv' := [(4, .int (0 : Int32)), (0, .ref (gA G 61)), (1, .int x1), (2, .int x2), (3, .int v3)]) hx hb dX9_looksUp_121 hl (by decide) rfl (fun ls hl => ?_)
              refine lv_iconst (v := 0) hx hb dX9_looksUp_123 (by decide) ?_
              have J126 : ∀ (fl : Nat) (v3 : Int32) (v4 : Int32) (v5 : Int32) (τ : St) (H : Heap) (locs : List Loc) (hP : Pw G τ H) (hS : va_S (AG G) s.heap H locs) (ls : Array Slot) (hl : lv_has ls 6 [(0, .ref (gA G 61)), (1, .int x1), (2, .int x2), (3, .int v3), (4, .int v4), (5, .int v5)]) (hF : f_X9_looksUp_126 x1 x2 fl v3 v4 v5 τ = some o), W p l e (headSpec wsX9_looksUp ({ frames := 4, cells := 0, slots := 0, locals := 87 })).room s m ([.ref (gA G 61), .int x1, .int x2] : List Value).toArray below meth c H locs 0 0 (MQ below (qR G (some (.int o.1)) o.2) ([.ref (gA G 61), .int x1, .int x2] : List Value).toArray s 0 0 (AG G)) (F0 m 126 ls []) := by
                intro fl126
                induction fl126 with
                | zero => intro v3 v4 v5 τ H locs hP hS ls hl hF; cases hF
                | succ fl126 ih126 =>
                  intro v3 v4 v5 τ H locs hP hS ls hl hF
                  rw [f_X9_looksUp_126_s] at hF
                  refine lv_iload hx hb dX9_looksUp_126 (lv_at hl 5 rfl) ?_
                  refine lv_aload_n hx hb dX9_looksUp_128 rfl (lv_at hl 0 rfl) ?_
                  refine va_get (ci := 5) (C := RX9) (T := TX9) (N := 21) (v := .int (τ 61 7)) hx hb hts inX9 hown hK.1 hP 61 (at_5 rfl) rfl 7 (by decide) w1 (fun _ h9 => h9) rfl dX9_looksUp_129 ?_
                  refine lv_icmp_ge (tgt := 215) hx hb dX9_looksUp_132 (by decide) (fun c7 => ?_) (fun c7 => ?_)
                  · have hF := ite_t c7 hF
                    refine lv_iload hx hb dX9_looksUp_215 (lv_at hl 4 rfl) ?_
                    exact e_iS hx hb hr hP hS hlocks dX9_looksUp_217 hF
                  · have hF := ite_f c7 hF
                    refine lv_iload_n hx hb dX9_looksUp_135 rfl (lv_at hl 3 rfl) ?_
                    refine lv_if_lt (tgt := 215) hx hb dX9_looksUp_136 (by decide) (fun c8 => ?_) (fun c8 => ?_)
                    · have hF := ite_t c8 hF
                      refine lv_iload hx hb dX9_looksUp_215 (lv_at hl 4 rfl) ?_
                      exact e_iS hx hb hr hP hS hlocks dX9_looksUp_217 hF
                    · have hF := ite_f c8 hF
                      refine lv_iload hx hb dX9_looksUp_139 (lv_at hl 4 rfl) ?_
                      refine lv_aload_n hx hb dX9_looksUp_141 rfl (lv_at hl 0 rfl) ?_
                      refine va_get (ci := 5) (C := RX9) (T := TX9) (N := 21) (v := .ref (gA G 67)) hx hb hts inX9 hown hK.1 hP 61 (at_5 rfl) rfl 6 (by decide) w2 (fun _ h9 => h9) rfl dX9_looksUp_142 ?_
                      refine lv_iload hx hb dX9_looksUp_145 (lv_at hl 5 rfl) ?_
                      obtain ⟨b9, hF⟩ := ite_some hF
                      refine va_iald hx hb hK.1 hP 67 0 (at_6 (rfl : kd 67 = 6) (rfl : ln 67 = 10)) rfl (inb_in b9) dX9_looksUp_147 ?_
                      refine lv_aload_n hx hb dX9_looksUp_148 rfl (lv_at hl 0 rfl) ?_
                      refine va_get (ci := 5) (C := RX9) (T := TX9) (N := 21) (v := .ref (gA G 67)) hx hb hts inX9 hown hK.1 hP 61 (at_5 rfl) rfl 6 (by decide) w2 (fun _ h9 => h9) rfl dX9_looksUp_149 ?_
                      refine lv_iload_n hx hb dX9_looksUp_152 rfl (lv_at hl 3 rfl) ?_
                      obtain ⟨b10, hF⟩ := ite_some hF
                      refine va_iald hx hb hK.1 hP 67 0 (at_6 (rfl : kd 67 = 6) (rfl : ln 67 = 10)) rfl (inb_in b10) dX9_looksUp_153 ?_
                      have J206 : ∀ (v3 : Int32) (v5 : Int32) (z0 : Int32) (z1 : Int32) (τ : St) (H : Heap) (locs : List Loc) (hP : Pw G τ H) (hS : va_S (AG G) s.heap H locs) (ls : Array Slot) (hl : lv_has ls 6 [(0, .ref (gA G 61)), (1, .int x1), (2, .int x2), (3, .int v3), (5, .int v5)]) (hF : f_X9_looksUp_206 x1 x2 (f_X9_looksUp_126 x1 x2 fl126) v3 v5 z0 z1 τ = some o), W p l e (headSpec wsX9_looksUp ({ frames := 4, cells := 0, slots := 0, locals := 87 })).room s m ([.ref (gA G 61), .int x1, .int x2] : List Value).toArray below meth c H locs 0 0 (MQ below (qR G (some (.int o.1)) o.2) ([.ref (gA G 61), .int x1, .int x2] : List Value).toArray s 0 0 (AG G)) (F0 m 206 ls [.int z1, .int z0]) := by
                        intro v3 v5 z0 z1 τ H locs hP hS ls hl hF
                        rw [f_X9_looksUp_206_e] at hF
                        refine lv_ior hx hb dX9_looksUp_206 ?_
                        refine lv_istore (lv' := [(4, .int (z0 ||| z1)), (0, .ref (gA G 61)), (1, .int x1), (2, .int x2), (3, .int v3), (5, .int v5)]) hx hb dX9_looksUp_207 hl (by decide) rfl (fun ls hl => ?_)
                        refine lv_iinc (v := (v5 + (1 : Int32))) (lv' := [(5, .int (v5 + (1 : Int32))), (4, .int (z0 ||| z1)), (0, .ref (gA G 61)), (1, .int x1), (2, .int x2), (3, .int v3)]) hx hb dX9_looksUp_209 hl (k := 5) rfl rfl (by decide) rfl (fun ls hl => ?_)
                        refine lv_goto (tgt := 126) hx hb dX9_looksUp_212 (by decide) ?_
                        exact ih126 v3 (z0 ||| z1) (v5 + (1 : Int32)) τ _ _ hP hS ls (lv_sub hl [2, 3, 4, 5, 1, 0] rfl) hF
                      have J205 : ∀ (v3 : Int32) (v5 : Int32) (z0 : Int32) (τ : St) (H : Heap) (locs : List Loc) (hP : Pw G τ H) (hS : va_S (AG G) s.heap H locs) (ls : Array Slot) (hl : lv_has ls 6 [(0, .ref (gA G 61)), (1, .int x1), (2, .int x2), (3, .int v3), (5, .int v5)]) (hF : f_X9_looksUp_205 x1 x2 (f_X9_looksUp_126 x1 x2 fl126) v3 v5 z0 τ = some o), W p l e (headSpec wsX9_looksUp ({ frames := 4, cells := 0, slots := 0, locals := 87 })).room s m ([.ref (gA G 61), .int x1, .int x2] : List Value).toArray below meth c H locs 0 0 (MQ below (qR G (some (.int o.1)) o.2) ([.ref (gA G 61), .int x1, .int x2] : List Value).toArray s 0 0 (AG G)) (F0 m 205 ls [.int z0]) := by
                        intro v3 v5 z0 τ H locs hP hS ls hl hF
                        rw [f_X9_looksUp_205_e] at hF
                        refine lv_iconst (v := 0) hx hb dX9_looksUp_205 (by decide) ?_
                        exact J206 v3 v5 z0 (0 : Int32) τ _ _ hP hS ls (lv_sub hl [0, 1, 2, 3, 4] rfl) hF
                      refine lv_icmp_ne (tgt := 205) hx hb dX9_looksUp_154 (by decide) (fun c11 => ?_) (fun c11 => ?_)
                      · have hF := ite_f c11 hF
                        exact J205 v3 v5 v4 τ _ _ hP hS ls (lv_sub hl [0, 1, 2, 3, 5] rfl) hF
                      · have hF := ite_t c11 hF
                        refine lv_aload_n hx hb dX9_looksUp_157 rfl (lv_at hl 0 rfl) ?_
                        refine va_get (ci := 5) (C := RX9) (T := TX9) (N := 21) (v := .ref (gA G 62)) hx hb hts inX9 hown hK.1 hP 61 (at_5 rfl) rfl 0 (by decide) w3 (fun _ h9 => h9) rfl dX9_looksUp_158 ?_
                        refine lv_iload_n hx hb dX9_looksUp_161 rfl (lv_at hl 1 rfl) ?_
                        refine lv_aload_n hx hb dX9_looksUp_162 rfl (lv_at hl 0 rfl) ?_
                        refine va_get (ci := 5) (C := RX9) (T := TX9) (N := 21) (v := .ref (gA G 66)) hx hb hts inX9 hown hK.1 hP 61 (at_5 rfl) rfl 5 (by decide) w4 (fun _ h9 => h9) rfl dX9_looksUp_163 ?_
                        refine lv_iload hx hb dX9_looksUp_166 (lv_at hl 5 rfl) ?_
                        obtain ⟨b12, hF⟩ := ite_some hF
                        refine va_iald hx hb hK.1 hP 66 0 (at_6 (rfl : kd 66 = 6) (rfl : ln 66 = 10)) rfl (inb_in b12) dX9_looksUp_168 ?_
                        obtain ⟨q13, h14, hF⟩ := ob_some hF
                        refine k_Sv (As := [.ref (gA G 62), .int x1, .int (τ 66 v5.toNatClampNeg)]) (rest := [.int v4]) Z hK hP hS (t_X9_wasThere l G hG 62 x1 (τ 66 v5.toNatClampNeg) ⟨(rfl : kd 62 = 6), (rfl : ln 62 = 52)⟩ τ _ h14) (va_cwS 3 hts gX9_looksUp_X9_wasThere rfl rfl rfl (by decide +kernel) ⟨Nat.le_of_ble_eq_true rfl, Nat.le_of_ble_eq_true rfl⟩) rfl hl.1 rfl (Nat.le_of_ble_eq_true rfl) ⟨Nat.zero_le _, Nat.zero_le _⟩ dX9_looksUp_169 (fun H locs hP hS => ?_)
                        refine lv_if_eq (tgt := 205) hx hb dX9_looksUp_172 (by decide) (fun c15 => ?_) (fun c15 => ?_)
                        · have hF := ite_f (b2i_e0 c15) hF
                          exact J205 v3 v5 v4 τ _ _ hP hS ls (lv_sub hl [0, 1, 2, 3, 5] rfl) hF
                        · have hF := ite_t (b2i_n0 c15) hF
                          refine lv_aload_n hx hb dX9_looksUp_175 rfl (lv_at hl 0 rfl) ?_
                          refine va_get (ci := 5) (C := RX9) (T := TX9) (N := 21) (v := .ref (gA G 62)) hx hb hts inX9 hown hK.1 hP 61 (at_5 rfl) rfl 0 (by decide) w3 (fun _ h9 => h9) rfl dX9_looksUp_176 ?_
                          refine lv_iload_n hx hb dX9_looksUp_179 rfl (lv_at hl 1 rfl) ?_
                          refine lv_aload_n hx hb dX9_looksUp_180 rfl (lv_at hl 0 rfl) ?_
                          refine va_get (ci := 5) (C := RX9) (T := TX9) (N := 21) (v := .ref (gA G 66)) hx hb hts inX9 hown hK.1 hP 61 (at_5 rfl) rfl 5 (by decide) w4 (fun _ h9 => h9) rfl dX9_looksUp_181 ?_
                          refine lv_iload hx hb dX9_looksUp_184 (lv_at hl 5 rfl) ?_
                          obtain ⟨b16, hF⟩ := ite_some hF
                          refine va_iald hx hb hK.1 hP 66 0 (at_6 (rfl : kd 66 = 6) (rfl : ln 66 = 10)) rfl (inb_in b16) dX9_looksUp_186 ?_
                          obtain ⟨q17, h18, hF⟩ := ob_some hF
                          refine k_Sv (As := [.ref (gA G 62), .int x1, .int (τ 66 v5.toNatClampNeg)]) (rest := [.int v4]) Z hK hP hS (t_X9_hasIt l G hG 62 x1 (τ 66 v5.toNatClampNeg) ⟨(rfl : kd 62 = 6), (rfl : ln 62 = 52)⟩ τ _ h18) (va_cwS 3 hts gX9_looksUp_X9_hasIt rfl rfl rfl (by decide +kernel) ⟨Nat.le_of_ble_eq_true rfl, Nat.le_of_ble_eq_true rfl⟩) rfl hl.1 rfl (Nat.le_of_ble_eq_true rfl) ⟨Nat.zero_le _, Nat.zero_le _⟩ dX9_looksUp_187 (fun H locs hP hS => ?_)
                          refine lv_if_ne (tgt := 205) hx hb dX9_looksUp_190 (by decide) (fun c19 => ?_) (fun c19 => ?_)
                          · have hF := ite_t (b2i_n0 c19) hF
                            exact J205 v3 v5 v4 τ _ _ hP hS ls (lv_sub hl [0, 1, 2, 3, 5] rfl) hF
                          · have hF := ite_f (b2i_e0 c19) hF
                            refine lv_iconst (v := 1) hx hb dX9_looksUp_193 (by decide) ?_
                            refine lv_aload_n hx hb dX9_looksUp_194 rfl (lv_at hl 0 rfl) ?_
                            refine va_get (ci := 5) (C := RX9) (T := TX9) (N := 21) (v := .ref (gA G 66)) hx hb hts inX9 hown hK.1 hP 61 (at_5 rfl) rfl 5 (by decide) w4 (fun _ h9 => h9) rfl dX9_looksUp_195 ?_
                            refine lv_iload hx hb dX9_looksUp_198 (lv_at hl 5 rfl) ?_
                            obtain ⟨b20, hF⟩ := ite_some hF
                            refine va_iald hx hb hK.1 hP 66 0 (at_6 (rfl : kd 66 = 6) (rfl : ln 66 = 10)) rfl (inb_in b20) dX9_looksUp_200 ?_
                            refine lv_ishl hx hb dX9_looksUp_201 ?_
                            refine lv_goto (tgt := 206) hx hb dX9_looksUp_202 (by decide) ?_
                            exact J206 v3 v5 v4 ((1 : Int32) <<< ((τ 66 v5.toNatClampNeg) &&& 31)) τ _ _ hP hS ls (lv_sub hl [0, 1, 2, 3, 5] rfl) hF
              refine lv_istore (lv' := [(5, .int (0 : Int32)), (4, .int (0 : Int32)), (0, .ref (gA G 61)), (1, .int x1), (2, .int x2), (3, .int v3)]) hx hb dX9_looksUp_124 hl (by decide) rfl (fun ls hl => ?_)
              exact J126 fu v3 (0 : Int32) (0 : Int32) τ _ _ hP hS ls (lv_sub hl [2, 3, 4, 5, 1, 0] rfl) hF
            · have hF := ite_t c6 hF
              refine lv_iload_n hx hb dX9_looksUp_104 rfl (lv_at hl 3 rfl) ?_
              refine lv_if_ge (tgt := 113) hx hb dX9_looksUp_105 (by decide) (fun c21 => ?_) (fun c21 => ?_)
              · have hF := ite_t c21 hF
                refine lv_aload_n hx hb dX9_looksUp_113 rfl (lv_at hl 0 rfl) ?_
                refine va_get (ci := 5) (C := RX9) (T := TX9) (N := 21) (v := .ref (gA G 67)) hx hb hts inX9 hown hK.1 hP 61 (at_5 rfl) rfl 6 (by decide) w2 (fun _ h9 => h9) rfl dX9_looksUp_114 ?_
                refine lv_iload_n hx hb dX9_looksUp_117 rfl (lv_at hl 3 rfl) ?_
                obtain ⟨b22, hF⟩ := ite_some hF
                refine va_iald hx hb hK.1 hP 67 0 (at_6 (rfl : kd 67 = 6) (rfl : ln 67 = 10)) rfl (inb_in b22) dX9_looksUp_118 ?_
                exact e_iS hx hb hr hP hS hlocks dX9_looksUp_119 hF
              · have hF := ite_f c21 hF
                refine lv_bipush (v := -4) hx hb dX9_looksUp_108 (by decide) ?_
                refine lv_goto (tgt := 119) hx hb dX9_looksUp_110 (by decide) ?_
                exact e_iS hx hb hr hP hS hlocks dX9_looksUp_119 hF
          · have hF := ite_f c5 hF
            refine lv_aload_n hx hb dX9_looksUp_37 rfl (lv_at hl 0 rfl) ?_
            refine va_get (ci := 5) (C := RX9) (T := TX9) (N := 21) (v := .ref (gA G 62)) hx hb hts inX9 hown hK.1 hP 61 (at_5 rfl) rfl 0 (by decide) w3 (fun _ h9 => h9) rfl dX9_looksUp_38 ?_
            refine lv_aload_n hx hb dX9_looksUp_41 rfl (lv_at hl 0 rfl) ?_
            refine va_get (ci := 5) (C := RX9) (T := TX9) (N := 21) (v := .ref (gA G 66)) hx hb hts inX9 hown hK.1 hP 61 (at_5 rfl) rfl 5 (by decide) w4 (fun _ h9 => h9) rfl dX9_looksUp_42 ?_
            refine lv_iload hx hb dX9_looksUp_45 (lv_at hl 4 rfl) ?_
            obtain ⟨b23, hF⟩ := ite_some hF
            refine va_iald hx hb hK.1 hP 66 0 (at_6 (rfl : kd 66 = 6) (rfl : ln 66 = 10)) rfl (inb_in b23) dX9_looksUp_47 ?_
            refine lv_iconst (v := 3) hx hb dX9_looksUp_48 (by decide) ?_
            refine k_Sv (As := [.int (τ 66 v4.toNatClampNeg), .int (3 : Int32)]) (rest := [.ref (gA G 62)]) Z hK hP hS (t_X9_of l G hG (τ 66 v4.toNatClampNeg) (3 : Int32) τ) (va_cwS 2 hts gX9_looksUp_X9_of rfl rfl rfl (by decide +kernel) ⟨Nat.le_of_ble_eq_true rfl, Nat.le_of_ble_eq_true rfl⟩) rfl hl.1 rfl (Nat.le_of_ble_eq_true rfl) ⟨Nat.zero_le _, Nat.zero_le _⟩ dX9_looksUp_49 (fun H locs hP hS => ?_)
            obtain ⟨b24, hF⟩ := ite_some hF
            refine va_iald hx hb hK.1 hP 62 0 (at_6 (rfl : kd 62 = 6) (rfl : ln 62 = 52)) rfl (inb_in b24) dX9_looksUp_52 ?_
            refine lv_iload_n hx hb dX9_looksUp_53 rfl (lv_at hl 1 rfl) ?_
            have J94 : ∀ (v3 : Int32) (v4 : Int32) (τ : St) (H : Heap) (locs : List Loc) (hP : Pw G τ H) (hS : va_S (AG G) s.heap H locs) (ls : Array Slot) (hl : lv_has ls 6 [(0, .ref (gA G 61)), (1, .int x1), (2, .int x2), (3, .int v3), (4, .int v4)]) (hF : f_X9_looksUp_94 x1 x2 (f_X9_looksUp_28 x1 x2 fl28) v3 v4 τ = some o), W p l e (headSpec wsX9_looksUp ({ frames := 4, cells := 0, slots := 0, locals := 87 })).room s m ([.ref (gA G 61), .int x1, .int x2] : List Value).toArray below meth c H locs 0 0 (MQ below (qR G (some (.int o.1)) o.2) ([.ref (gA G 61), .int x1, .int x2] : List Value).toArray s 0 0 (AG G)) (F0 m 94 ls []) := by
              intro v3 v4 τ H locs hP hS ls hl hF
              rw [f_X9_looksUp_94_e] at hF
              refine lv_iinc (v := (v4 + (1 : Int32))) (lv' := [(4, .int (v4 + (1 : Int32))), (0, .ref (gA G 61)), (1, .int x1), (2, .int x2), (3, .int v3)]) hx hb dX9_looksUp_94 hl (k := 4) rfl rfl (by decide) rfl (fun ls hl => ?_)
              refine lv_goto (tgt := 28) hx hb dX9_looksUp_97 (by decide) ?_
              exact ih28 v3 (v4 + (1 : Int32)) τ _ _ hP hS ls (lv_sub hl [1, 2, 3, 4, 0] rfl) hF
            refine lv_icmp_ne (tgt := 94) hx hb dX9_looksUp_54 (by decide) (fun c25 => ?_) (fun c25 => ?_)
            · have hF := ite_f c25 hF
              exact J94 v3 v4 τ _ _ hP hS ls (lv_sub hl [0, 1, 2, 3, 4] rfl) hF
            · have hF := ite_t c25 hF
              refine lv_iload_n hx hb dX9_looksUp_57 rfl (lv_at hl 3 rfl) ?_
              have J91 : ∀ (v4 : Int32) (τ : St) (H : Heap) (locs : List Loc) (hP : Pw G τ H) (hS : va_S (AG G) s.heap H locs) (ls : Array Slot) (hl : lv_has ls 6 [(0, .ref (gA G 61)), (1, .int x1), (2, .int x2), (4, .int v4)]) (hF : f_X9_looksUp_91 x1 x2 (f_X9_looksUp_28 x1 x2 fl28) v4 τ = some o), W p l e (headSpec wsX9_looksUp ({ frames := 4, cells := 0, slots := 0, locals := 87 })).room s m ([.ref (gA G 61), .int x1, .int x2] : List Value).toArray below meth c H locs 0 0 (MQ below (qR G (some (.int o.1)) o.2) ([.ref (gA G 61), .int x1, .int x2] : List Value).toArray s 0 0 (AG G)) (F0 m 91 ls []) := by
                intro v4 τ H locs hP hS ls hl hF
                rw [f_X9_looksUp_91_e] at hF
                refine lv_iload hx hb dX9_looksUp_91 (lv_at hl 3 rfl) ?_
                refine lv_istore_n (lv' := [(3, .int v4), (0, .ref (gA G 61)), (1, .int x1), (2, .int x2), (4, .int v4)]) hx hb dX9_looksUp_93 rfl hl (by decide) rfl (fun ls hl => ?_)
                exact J94 v4 v4 τ _ _ hP hS ls (lv_sub hl [1, 2, 3, 0, 4] rfl) hF
              refine lv_if_lt (tgt := 91) hx hb dX9_looksUp_58 (by decide) (fun c26 => ?_) (fun c26 => ?_)
              · have hF := ite_t c26 hF
                exact J91 v4 τ _ _ hP hS ls (lv_sub hl [0, 1, 2, 4] rfl) hF
              · have hF := ite_f c26 hF
                refine lv_aload_n hx hb dX9_looksUp_61 rfl (lv_at hl 0 rfl) ?_
                refine va_get (ci := 5) (C := RX9) (T := TX9) (N := 21) (v := .ref (gA G 62)) hx hb hts inX9 hown hK.1 hP 61 (at_5 rfl) rfl 0 (by decide) w3 (fun _ h9 => h9) rfl dX9_looksUp_62 ?_
                refine lv_aload_n hx hb dX9_looksUp_65 rfl (lv_at hl 0 rfl) ?_
                refine va_get (ci := 5) (C := RX9) (T := TX9) (N := 21) (v := .ref (gA G 66)) hx hb hts inX9 hown hK.1 hP 61 (at_5 rfl) rfl 5 (by decide) w4 (fun _ h9 => h9) rfl dX9_looksUp_66 ?_
                refine lv_iload hx hb dX9_looksUp_69 (lv_at hl 4 rfl) ?_
                obtain ⟨b27, hF⟩ := ite_some hF
                refine va_iald hx hb hK.1 hP 66 0 (at_6 (rfl : kd 66 = 6) (rfl : ln 66 = 10)) rfl (inb_in b27) dX9_looksUp_71 ?_
                obtain ⟨q28, h29, hF⟩ := ob_some hF
                refine k_Sv (As := [.ref (gA G 62), .int (τ 66 v4.toNatClampNeg)]) (rest := []) Z hK hP hS (t_X9_sizeOf l G hG 62 (τ 66 v4.toNatClampNeg) ⟨(rfl : kd 62 = 6), (rfl : ln 62 = 52)⟩ τ _ h29) (va_cwS 2 hts gX9_looksUp_X9_sizeOf rfl rfl rfl (by decide +kernel) ⟨Nat.le_of_ble_eq_true rfl, Nat.le_of_ble_eq_true rfl⟩) rfl hl.1 rfl (Nat.le_of_ble_eq_true rfl) ⟨Nat.zero_le _, Nat.zero_le _⟩ dX9_looksUp_72 (fun H locs hP hS => ?_)
                refine lv_aload_n hx hb dX9_looksUp_75 rfl (lv_at hl 0 rfl) ?_
                refine va_get (ci := 5) (C := RX9) (T := TX9) (N := 21) (v := .ref (gA G 62)) hx hb hts inX9 hown hK.1 hP 61 (at_5 rfl) rfl 0 (by decide) w3 (fun _ h9 => h9) rfl dX9_looksUp_76 ?_
                refine lv_aload_n hx hb dX9_looksUp_79 rfl (lv_at hl 0 rfl) ?_
                refine va_get (ci := 5) (C := RX9) (T := TX9) (N := 21) (v := .ref (gA G 66)) hx hb hts inX9 hown hK.1 hP 61 (at_5 rfl) rfl 5 (by decide) w4 (fun _ h9 => h9) rfl dX9_looksUp_80 ?_
                refine lv_iload_n hx hb dX9_looksUp_83 rfl (lv_at hl 3 rfl) ?_
                obtain ⟨b30, hF⟩ := ite_some hF
                refine va_iald hx hb hK.1 hP 66 0 (at_6 (rfl : kd 66 = 6) (rfl : ln 66 = 10)) rfl (inb_in b30) dX9_looksUp_84 ?_
                obtain ⟨q31, h32, hF⟩ := ob_some hF
                refine k_Sv (As := [.ref (gA G 62), .int (τ 66 v3.toNatClampNeg)]) (rest := [.int q28]) Z hK hP hS (t_X9_sizeOf l G hG 62 (τ 66 v3.toNatClampNeg) ⟨(rfl : kd 62 = 6), (rfl : ln 62 = 52)⟩ τ _ h32) (va_cwS 2 hts gX9_looksUp_X9_sizeOf rfl rfl rfl (by decide +kernel) ⟨Nat.le_of_ble_eq_true rfl, Nat.le_of_ble_eq_true rfl⟩) rfl hl.1 rfl (Nat.le_of_ble_eq_true rfl) ⟨Nat.zero_le _, Nat.zero_le _⟩ dX9_looksUp_85 (fun H locs hP hS => ?_)
                refine lv_icmp_le (tgt := 94) hx hb dX9_looksUp_88 (by decide) (fun c33 => ?_) (fun c33 => ?_)
                · have hF := ite_t c33 hF
                  exact J94 v3 v4 τ _ _ hP hS ls (lv_sub hl [0, 1, 2, 3, 4] rfl) hF
                · have hF := ite_f c33 hF
                  exact J91 v4 τ _ _ hP hS ls (lv_sub hl [0, 1, 2, 4] rfl) hF
      refine lv_istore (lv' := [(4, .int (0 : Int32)), (3, .int (-4 : Int32)), (0, .ref (gA G 61)), (1, .int x1), (2, .int x2)]) hx hb dX9_looksUp_26 hl (by decide) rfl (fun ls hl => ?_)
      exact J28 fu (-4 : Int32) (0 : Int32) q3 _ _ hP hS ls (lv_sub hl [2, 3, 4, 1, 0] rfl) hF
    · have hF := ite_f (b2i_e0 c2) hF
      refine lv_iconst (v := -1) hx hb dX9_looksUp_16 (by decide) ?_
      exact e_iS hx hb hr hP hS hlocks dX9_looksUp_17 hF
def f_X9_uncut_99 (x1 : Int32) (x2 : Int32) (rec34 : Int32 → Int32 → Int32 → St → Option (Int32 × St)) (v3 : Int32) (v4 : Int32) (v5 : Int32) (τ : St) : Option (Int32 × St) := (rec34 v3 v4 (v5 + (1 : Int32)) τ)
theorem f_X9_uncut_99_e {x1 : Int32} {x2 : Int32} {rec34 : Int32 → Int32 → Int32 → St → Option (Int32 × St)} {v3 : Int32} {v4 : Int32} {v5 : Int32} {τ : St} : f_X9_uncut_99 x1 x2 rec34 v3 v4 v5 τ = (rec34 v3 v4 (v5 + (1 : Int32)) τ) := rfl
def f_X9_uncut_34 (x1 : Int32) (x2 : Int32) : Nat → (Int32 → Int32 → Int32 → St → Option (Int32 × St))
  | 0 => fun _ _ _ _ => none
  | fl + 1 => fun v3 v4 v5 τ => (if (τ 61 7) ≤ v5 then (if x2 = 0 then (some (v3, τ)) else (some (v4, τ))) else (if inb v5 10 then if (τ 67 v5.toNatClampNeg) < ((τ 61 8) - x1) then (if inb v5 10 then if inb (f_X9_of (τ 66 v5.toNatClampNeg) (3 : Int32)) 52 then f_X9_uncut_99 x1 x2 (f_X9_uncut_34 x1 x2 fl) v3 (v4 &&& (((1 : Int32) <<< ((τ 62 (f_X9_of (τ 66 v5.toNatClampNeg) (3 : Int32)).toNatClampNeg) &&& 31)) ^^^ (-1 : Int32))) v5 τ else none else none) else (if inb v5 10 then f_X9_uncut_99 x1 x2 (f_X9_uncut_34 x1 x2 fl) (v3 ||| ((1 : Int32) <<< ((τ 66 v5.toNatClampNeg) &&& 31))) v4 v5 τ else none) else none))
theorem f_X9_uncut_34_s {x1 : Int32} {x2 : Int32} (fl : Nat) {v3 : Int32} {v4 : Int32} {v5 : Int32} {τ : St} : f_X9_uncut_34 x1 x2 (fl + 1) v3 v4 v5 τ = (if (τ 61 7) ≤ v5 then (if x2 = 0 then (some (v3, τ)) else (some (v4, τ))) else (if inb v5 10 then if (τ 67 v5.toNatClampNeg) < ((τ 61 8) - x1) then (if inb v5 10 then if inb (f_X9_of (τ 66 v5.toNatClampNeg) (3 : Int32)) 52 then f_X9_uncut_99 x1 x2 (f_X9_uncut_34 x1 x2 fl) v3 (v4 &&& (((1 : Int32) <<< ((τ 62 (f_X9_of (τ 66 v5.toNatClampNeg) (3 : Int32)).toNatClampNeg) &&& 31)) ^^^ (-1 : Int32))) v5 τ else none else none) else (if inb v5 10 then f_X9_uncut_99 x1 x2 (f_X9_uncut_34 x1 x2 fl) (v3 ||| ((1 : Int32) <<< ((τ 66 v5.toNatClampNeg) &&& 31))) v4 v5 τ else none) else none)) := rfl
def f_X9_uncut (x1 : Int32) (x2 : Int32) (σ : St) : Option (Int32 × St) := (if (f_X9_isIn x1 (0 : Int32) (9 : Int32)) = true then (if (f_X9_isIn x2 (0 : Int32) (1 : Int32)) = true then (ob (f_X9_prints σ) (fun q3 => f_X9_uncut_34 x1 x2 fu (0 : Int32) (31 : Int32) (0 : Int32) q3)) else (some ((-1 : Int32), σ))) else (some ((-1 : Int32), σ)))
set_option maxRecDepth 100000 in
set_option maxHeartbeats 4000000 in
theorem t_X9_uncut (l : Launch) (G : GT) (hG : Dw G) (x1 : Int32) (x2 : Int32) (σ : St) (o : Int32 × St) (hF : f_X9_uncut x1 x2 σ = some o) : Ct l G yX9_uncut wsX9_uncut 4 87 [.ref (gA G 61), .int x1, .int x2] σ (some (.int o.1)) o.2 := by
  refine Met.ofW (cc := cX9_uncut) (maxL := 6) (ret := (some .int)) (by decide) rfl ?_
  intro p e s m args below meth c s₁ B hml hv
  obtain ⟨rfl, hP, hK⟩ := hv
  have hx := B.exec
  have hb := B.bytes
  have hr := B.returns
  have hts := atoms_spec (ws := wsX9_uncut) B.pre
  have hown : s.vm.findClass RX9 = some m.cls := findClass_of_methodNamed B.named
  have hlocks := B.notSynchronized
  have Z : CallFix p m c cX9_uncut 6 s _ wsX9_uncut RX9 := ⟨hx, hb, hml, hown, hts⟩
  have hS : va_S (AG G) s.heap s.heap [] := va_S.rf
  have inX9 : ∀ w ∈ u_ws RX9 TX9 21, w ∈ wsX9_uncut := by decide +kernel
  have w1 := hts (.fieldLink RX9 85 "AlmanacOfTheYearGoneModel" "toldMany" "I") (by decide +kernel)
  have w2 := hts (.fieldLink RX9 25 "AlmanacOfTheYearGoneModel" "page" "[I") (by decide +kernel)
  have w3 := hts (.fieldLink RX9 92 "AlmanacOfTheYearGoneModel" "pageMany" "I") (by decide +kernel)
  have w4 := hts (.fieldLink RX9 9 "AlmanacOfTheYearGoneModel" "s" "[I") (by decide +kernel)
  have w5 := hts (.fieldLink RX9 22 "AlmanacOfTheYearGoneModel" "told" "[I") (by decide +kernel)
  have hl := lv_entry ([.ref (gA G 61), .int x1, .int x2]) (n := 6) (Nat.le_of_ble_eq_true rfl)
  rw [lg_entry_eq]
  generalize (lg_sl ([.ref (gA G 61), .int x1, .int x2]) ++ List.replicate (6 - (lg_sl ([.ref (gA G 61), .int x1, .int x2])).length) Slot.unset).toArray = ls at hl ⊢
  have hl : lv_has ls 6 [(0, .ref (gA G 61)), (1, .int x1), (2, .int x2)] := hl
  unfold f_X9_uncut at hF
  refine lv_iload_n hx hb dX9_uncut_0 rfl (lv_at hl 1 rfl) ?_
  refine lv_iconst (v := 0) hx hb dX9_uncut_1 (by decide) ?_
  refine lv_bipush (v := 9) hx hb dX9_uncut_2 (by decide) ?_
  refine k_Sv (As := [.int x1, .int (0 : Int32), .int (9 : Int32)]) (rest := []) Z hK hP hS (t_X9_isIn l G hG x1 (0 : Int32) (9 : Int32) σ) (va_cwS 3 hts gX9_uncut_X9_isIn rfl rfl rfl (by decide +kernel) ⟨Nat.le_of_ble_eq_true rfl, Nat.le_of_ble_eq_true rfl⟩) rfl hl.1 rfl (Nat.le_of_ble_eq_true rfl) ⟨Nat.zero_le _, Nat.zero_le _⟩ dX9_uncut_4 (fun H locs hP hS => ?_)
  refine lv_if_eq (tgt := 19) hx hb dX9_uncut_7 (by decide) (fun c1 => ?_) (fun c1 => ?_)
  · have hF := ite_f (b2i_e0 c1) hF
    refine lv_iconst (v := -1) hx hb dX9_uncut_19 (by decide) ?_
    exact e_iS hx hb hr hP hS hlocks dX9_uncut_20 hF
  · have hF := ite_t (b2i_n0 c1) hF
    refine lv_iload_n hx hb dX9_uncut_10 rfl (lv_at hl 2 rfl) ?_
    refine lv_iconst (v := 0) hx hb dX9_uncut_11 (by decide) ?_
    refine lv_iconst (v := 1) hx hb dX9_uncut_12 (by decide) ?_
    refine k_Sv (As := [.int x2, .int (0 : Int32), .int (1 : Int32)]) (rest := []) Z hK hP hS (t_X9_isIn l G hG x2 (0 : Int32) (1 : Int32) σ) (va_cwS 3 hts gX9_uncut_X9_isIn rfl rfl rfl (by decide +kernel) ⟨Nat.le_of_ble_eq_true rfl, Nat.le_of_ble_eq_true rfl⟩) rfl hl.1 rfl (Nat.le_of_ble_eq_true rfl) ⟨Nat.zero_le _, Nat.zero_le _⟩ dX9_uncut_13 (fun H locs hP hS => ?_)
    refine lv_if_ne (tgt := 21) hx hb dX9_uncut_16 (by decide) (fun c2 => ?_) (fun c2 => ?_)
    · have hF := ite_t (b2i_n0 c2) hF
      refine lv_aload_n hx hb dX9_uncut_21 rfl (lv_at hl 0 rfl) ?_
      obtain ⟨q3, h4, hF⟩ := ob_some hF
      refine k_V0 (As := []) (rest := []) Z hK hP hS (t_X9_prints l G hG σ _ h4) (cwV 0 hts gX9_uncut_X9_prints rfl rfl rfl (by decide +kernel) ⟨Nat.le_of_ble_eq_true rfl, Nat.le_of_ble_eq_true rfl⟩) (at_5 rfl) rfl rfl hl.1 rfl (Nat.le_of_ble_eq_true rfl) ⟨Nat.zero_le _, Nat.zero_le _⟩ dX9_uncut_22 (fun H locs hP hS => ?_)
      refine lv_iconst (v := 0) hx hb dX9_uncut_25 (by decide) ?_
      refine lv_istore_n (lv' := [(3, .int (0 : Int32)), (0, .ref (gA G 61)), (1, .int x1), (2, .int x2)]) hx hb dX9_uncut_26 rfl hl (by decide) rfl (fun ls hl => ?_)
      refine lv_bipush (v := 31) hx hb dX9_uncut_27 (by decide) ?_
      refine lv_istore (lv' := [(4, .int (31 : Int32)), (3, .int (0 : Int32)), (0, .ref (gA G 61)), (1, .int x1), (2, .int x2)]) hx hb dX9_uncut_29 hl (by decide) rfl (fun ls hl => ?_)
      refine lv_iconst (v := 0) hx hb dX9_uncut_31 (by decide) ?_
      have J34 : ∀ (fl : Nat) (v3 : Int32) (v4 : Int32) (v5 : Int32) (τ : St) (H : Heap) (locs : List Loc) (hP : Pw G τ H) (hS : va_S (AG G) s.heap H locs) (ls : Array Slot) (hl : lv_has ls 6 [(0, .ref (gA G 61)), (1, .int x1), (2, .int x2), (3, .int v3), (4, .int v4), (5, .int v5)]) (hF : f_X9_uncut_34 x1 x2 fl v3 v4 v5 τ = some o), W p l e (headSpec wsX9_uncut ({ frames := 4, cells := 0, slots := 0, locals := 87 })).room s m ([.ref (gA G 61), .int x1, .int x2] : List Value).toArray below meth c H locs 0 0 (MQ below (qR G (some (.int o.1)) o.2) ([.ref (gA G 61), .int x1, .int x2] : List Value).toArray s 0 0 (AG G)) (F0 m 34 ls []) := by
        intro fl34
        induction fl34 with
        | zero => intro v3 v4 v5 τ H locs hP hS ls hl hF; cases hF
        | succ fl34 ih34 =>
          intro v3 v4 v5 τ H locs hP hS ls hl hF
          rw [f_X9_uncut_34_s] at hF
          refine lv_iload hx hb dX9_uncut_34 (lv_at hl 5 rfl) ?_
          refine lv_aload_n hx hb dX9_uncut_36 rfl (lv_at hl 0 rfl) ?_
          refine va_get (ci := 5) (C := RX9) (T := TX9) (N := 21) (v := .int (τ 61 7)) hx hb hts inX9 hown hK.1 hP 61 (at_5 rfl) rfl 7 (by decide) w1 (fun _ h9 => h9) rfl dX9_uncut_37 ?_
          refine lv_icmp_ge (tgt := 105) hx hb dX9_uncut_40 (by decide) (fun c5 => ?_) (fun c5 => ?_)
          · have hF := ite_t c5 hF
            refine lv_iload_n hx hb dX9_uncut_105 rfl (lv_at hl 2 rfl) ?_
            refine lv_if_ne (tgt := 113) hx hb dX9_uncut_106 (by decide) (fun c6 => ?_) (fun c6 => ?_)
            · have hF := ite_f c6 hF
              refine lv_iload hx hb dX9_uncut_113 (lv_at hl 4 rfl) ?_
              exact e_iS hx hb hr hP hS hlocks dX9_uncut_115 hF
            · have hF := ite_t c6 hF
              refine lv_iload_n hx hb dX9_uncut_109 rfl (lv_at hl 3 rfl) ?_
              refine lv_goto (tgt := 115) hx hb dX9_uncut_110 (by decide) ?_
              exact e_iS hx hb hr hP hS hlocks dX9_uncut_115 hF
          · have hF := ite_f c5 hF
            refine lv_aload_n hx hb dX9_uncut_43 rfl (lv_at hl 0 rfl) ?_
            refine va_get (ci := 5) (C := RX9) (T := TX9) (N := 21) (v := .ref (gA G 67)) hx hb hts inX9 hown hK.1 hP 61 (at_5 rfl) rfl 6 (by decide) w2 (fun _ h9 => h9) rfl dX9_uncut_44 ?_
            refine lv_iload hx hb dX9_uncut_47 (lv_at hl 5 rfl) ?_
            obtain ⟨b7, hF⟩ := ite_some hF
            refine va_iald hx hb hK.1 hP 67 0 (at_6 (rfl : kd 67 = 6) (rfl : ln 67 = 10)) rfl (inb_in b7) dX9_uncut_49 ?_
            refine lv_aload_n hx hb dX9_uncut_50 rfl (lv_at hl 0 rfl) ?_
            refine va_get (ci := 5) (C := RX9) (T := TX9) (N := 21) (v := .int (τ 61 8)) hx hb hts inX9 hown hK.1 hP 61 (at_5 rfl) rfl 8 (by decide) w3 (fun _ h9 => h9) rfl dX9_uncut_51 ?_
            refine lv_iload_n hx hb dX9_uncut_54 rfl (lv_at hl 1 rfl) ?_
            refine lv_isub hx hb dX9_uncut_55 ?_
            have J99 : ∀ (v3 : Int32) (v4 : Int32) (v5 : Int32) (τ : St) (H : Heap) (locs : List Loc) (hP : Pw G τ H) (hS : va_S (AG G) s.heap H locs) (ls : Array Slot) (hl : lv_has ls 6 [(0, .ref (gA G 61)), (1, .int x1), (2, .int x2), (3, .int v3), (4, .int v4), (5, .int v5)]) (hF : f_X9_uncut_99 x1 x2 (f_X9_uncut_34 x1 x2 fl34) v3 v4 v5 τ = some o), W p l e (headSpec wsX9_uncut ({ frames := 4, cells := 0, slots := 0, locals := 87 })).room s m ([.ref (gA G 61), .int x1, .int x2] : List Value).toArray below meth c H locs 0 0 (MQ below (qR G (some (.int o.1)) o.2) ([.ref (gA G 61), .int x1, .int x2] : List Value).toArray s 0 0 (AG G)) (F0 m 99 ls []) := by
              intro v3 v4 v5 τ H locs hP hS ls hl hF
              rw [f_X9_uncut_99_e] at hF
              refine lv_iinc (v := (v5 + (1 : Int32))) (lv' := [(5, .int (v5 + (1 : Int32))), (0, .ref (gA G 61)), (1, .int x1), (2, .int x2), (3, .int v3), (4, .int v4)]) hx hb dX9_uncut_99 hl (k := 5) rfl rfl (by decide) rfl (fun ls hl => ?_)
              refine lv_goto (tgt := 34) hx hb dX9_uncut_102 (by decide) ?_
              exact ih34 v3 v4 (v5 + (1 : Int32)) τ _ _ hP hS ls (lv_sub hl [1, 2, 3, 4, 5, 0] rfl) hF
            refine lv_icmp_lt (tgt := 74) hx hb dX9_uncut_56 (by decide) (fun c8 => ?_) (fun c8 => ?_)
            · have hF := ite_t c8 hF
              refine lv_iload hx hb dX9_uncut_74 (lv_at hl 4 rfl) ?_
              refine lv_iconst (v := 1) hx hb dX9_uncut_76 (by decide) ?_
              refine lv_aload_n hx hb dX9_uncut_77 rfl (lv_at hl 0 rfl) ?_
              refine va_get (ci := 5) (C := RX9) (T := TX9) (N := 21) (v := .ref (gA G 62)) hx hb hts inX9 hown hK.1 hP 61 (at_5 rfl) rfl 0 (by decide) w4 (fun _ h9 => h9) rfl dX9_uncut_78 ?_
              refine lv_aload_n hx hb dX9_uncut_81 rfl (lv_at hl 0 rfl) ?_
              refine va_get (ci := 5) (C := RX9) (T := TX9) (N := 21) (v := .ref (gA G 66)) hx hb hts inX9 hown hK.1 hP 61 (at_5 rfl) rfl 5 (by decide) w5 (fun _ h9 => h9) rfl dX9_uncut_82 ?_
              refine lv_iload hx hb dX9_uncut_85 (lv_at hl 5 rfl) ?_
              obtain ⟨b9, hF⟩ := ite_some hF
              refine va_iald hx hb hK.1 hP 66 0 (at_6 (rfl : kd 66 = 6) (rfl : ln 66 = 10)) rfl (inb_in b9) dX9_uncut_87 ?_
              refine lv_iconst (v := 3) hx hb dX9_uncut_88 (by decide) ?_
              refine k_Sv (As := [.int (τ 66 v5.toNatClampNeg), .int (3 : Int32)]) (rest := [.ref (gA G 62), .int (1 : Int32), .int v4]) Z hK hP hS (t_X9_of l G hG (τ 66 v5.toNatClampNeg) (3 : Int32) τ) (va_cwS 2 hts gX9_uncut_X9_of rfl rfl rfl (by decide +kernel) ⟨Nat.le_of_ble_eq_true rfl, Nat.le_of_ble_eq_true rfl⟩) rfl hl.1 rfl (Nat.le_of_ble_eq_true rfl) ⟨Nat.zero_le _, Nat.zero_le _⟩ dX9_uncut_89 (fun H locs hP hS => ?_)
              obtain ⟨b10, hF⟩ := ite_some hF
              refine va_iald hx hb hK.1 hP 62 0 (at_6 (rfl : kd 62 = 6) (rfl : ln 62 = 52)) rfl (inb_in b10) dX9_uncut_92 ?_
              refine lv_ishl hx hb dX9_uncut_93 ?_
              refine lv_iconst (v := -1) hx hb dX9_uncut_94 (by decide) ?_
              refine lv_ixor hx hb dX9_uncut_95 ?_
              refine lv_iand hx hb dX9_uncut_96 ?_
              refine lv_istore (lv' := [(4, .int (v4 &&& (((1 : Int32) <<< ((τ 62 (f_X9_of (τ 66 v5.toNatClampNeg) (3 : Int32)).toNatClampNeg) &&& 31)) ^^^ (-1 : Int32)))), (0, .ref (gA G 61)), (1, .int x1), (2, .int x2), (3, .int v3), (5, .int v5)]) hx hb dX9_uncut_97 hl (by decide) rfl (fun ls hl => ?_)
              exact J99 v3 (v4 &&& (((1 : Int32) <<< ((τ 62 (f_X9_of (τ 66 v5.toNatClampNeg) (3 : Int32)).toNatClampNeg) &&& 31)) ^^^ (-1 : Int32))) v5 τ _ _ hP hS ls (lv_sub hl [1, 2, 3, 4, 0, 5] rfl) hF
            · have hF := ite_f c8 hF
              refine lv_iload_n hx hb dX9_uncut_59 rfl (lv_at hl 3 rfl) ?_
              refine lv_iconst (v := 1) hx hb dX9_uncut_60 (by decide) ?_
              refine lv_aload_n hx hb dX9_uncut_61 rfl (lv_at hl 0 rfl) ?_
              refine va_get (ci := 5) (C := RX9) (T := TX9) (N := 21) (v := .ref (gA G 66)) hx hb hts inX9 hown hK.1 hP 61 (at_5 rfl) rfl 5 (by decide) w5 (fun _ h9 => h9) rfl dX9_uncut_62 ?_
              refine lv_iload hx hb dX9_uncut_65 (lv_at hl 5 rfl) ?_
              obtain ⟨b11, hF⟩ := ite_some hF
              refine va_iald hx hb hK.1 hP 66 0 (at_6 (rfl : kd 66 = 6) (rfl : ln 66 = 10)) rfl (inb_in b11) dX9_uncut_67 ?_
              refine lv_ishl hx hb dX9_uncut_68 ?_
              refine lv_ior hx hb dX9_uncut_69 ?_
              refine lv_istore_n (lv' := [(3, .int (v3 ||| ((1 : Int32) <<< ((τ 66 v5.toNatClampNeg) &&& 31)))), (0, .ref (gA G 61)), (1, .int x1), (2, .int x2), (4, .int v4), (5, .int v5)]) hx hb dX9_uncut_70 rfl hl (by decide) rfl (fun ls hl => ?_)
              refine lv_goto (tgt := 99) hx hb dX9_uncut_71 (by decide) ?_
              exact J99 (v3 ||| ((1 : Int32) <<< ((τ 66 v5.toNatClampNeg) &&& 31))) v4 v5 τ _ _ hP hS ls (lv_sub hl [1, 2, 3, 0, 4, 5] rfl) hF
      refine lv_istore (lv' := [(5, .int (0 : Int32)), (4, .int (31 : Int32)), (3, .int (0 : Int32)), (0, .ref (gA G 61)), (1, .int x1), (2, .int x2)]) hx hb dX9_uncut_32 hl (by decide) rfl (fun ls hl => ?_)
      exact J34 fu (0 : Int32) (31 : Int32) (0 : Int32) q3 _ _ hP hS ls (lv_sub hl [3, 4, 5, 2, 1, 0] rfl) hF
    · have hF := ite_f (b2i_e0 c2) hF
      refine lv_iconst (v := -1) hx hb dX9_uncut_19 (by decide) ?_
      exact e_iS hx hb hr hP hS hlocks dX9_uncut_20 hF
def f_X9_guiltOf_67 (x1 : Int32) (σ : St) (rec4 : Int32 → Int32 → Option Int32) (v3 : Int32) (z0 : Int32) (z1 : Int32) : Option Int32 := (rec4 (z0 + z1) (v3 + (1 : Int32)))
theorem f_X9_guiltOf_67_e {x1 : Int32} {σ : St} {rec4 : Int32 → Int32 → Option Int32} {v3 : Int32} {z0 : Int32} {z1 : Int32} : f_X9_guiltOf_67 x1 σ rec4 v3 z0 z1 = (rec4 (z0 + z1) (v3 + (1 : Int32))) := rfl
def f_X9_guiltOf_66 (x1 : Int32) (σ : St) (rec4 : Int32 → Int32 → Option Int32) (v3 : Int32) (z0 : Int32) : Option Int32 := (f_X9_guiltOf_67 x1 σ rec4 v3 z0 (0 : Int32))
theorem f_X9_guiltOf_66_e {x1 : Int32} {σ : St} {rec4 : Int32 → Int32 → Option Int32} {v3 : Int32} {z0 : Int32} : f_X9_guiltOf_66 x1 σ rec4 v3 z0 = (f_X9_guiltOf_67 x1 σ rec4 v3 z0 (0 : Int32)) := rfl
def f_X9_guiltOf_4 (x1 : Int32) (σ : St) : Nat → (Int32 → Int32 → Option Int32)
  | 0 => fun _ _ => none
  | fl + 1 => fun v2 v3 => (if (σ 62 0) ≤ v3 then (some v2) else (ob (f_X9_isTold 62 v3 σ) (fun q2 => if q2 = true then (if inb (f_X9_of v3 (3 : Int32)) 52 then if (σ 62 (f_X9_of v3 (3 : Int32)).toNatClampNeg) = x1 then (if inb (f_X9_of v3 (0 : Int32)) 52 then if inb (f_X9_of v3 (1 : Int32)) 52 then f_X9_guiltOf_67 x1 σ (f_X9_guiltOf_4 x1 σ fl) v3 v2 (f_X9_guiltBy (σ 62 (f_X9_of v3 (0 : Int32)).toNatClampNeg) (σ 62 (f_X9_of v3 (1 : Int32)).toNatClampNeg)) else none else none) else f_X9_guiltOf_66 x1 σ (f_X9_guiltOf_4 x1 σ fl) v3 v2 else none) else f_X9_guiltOf_66 x1 σ (f_X9_guiltOf_4 x1 σ fl) v3 v2)))
theorem f_X9_guiltOf_4_s {x1 : Int32} {σ : St} (fl : Nat) {v2 : Int32} {v3 : Int32} : f_X9_guiltOf_4 x1 σ (fl + 1) v2 v3 = (if (σ 62 0) ≤ v3 then (some v2) else (ob (f_X9_isTold 62 v3 σ) (fun q2 => if q2 = true then (if inb (f_X9_of v3 (3 : Int32)) 52 then if (σ 62 (f_X9_of v3 (3 : Int32)).toNatClampNeg) = x1 then (if inb (f_X9_of v3 (0 : Int32)) 52 then if inb (f_X9_of v3 (1 : Int32)) 52 then f_X9_guiltOf_67 x1 σ (f_X9_guiltOf_4 x1 σ fl) v3 v2 (f_X9_guiltBy (σ 62 (f_X9_of v3 (0 : Int32)).toNatClampNeg) (σ 62 (f_X9_of v3 (1 : Int32)).toNatClampNeg)) else none else none) else f_X9_guiltOf_66 x1 σ (f_X9_guiltOf_4 x1 σ fl) v3 v2 else none) else f_X9_guiltOf_66 x1 σ (f_X9_guiltOf_4 x1 σ fl) v3 v2))) := rfl
def f_X9_guiltOf (x1 : Int32) (σ : St) : Option Int32 := (f_X9_guiltOf_4 x1 σ fu (0 : Int32) (0 : Int32))
set_option maxRecDepth 100000 in
set_option maxHeartbeats 4000000 in
theorem t_X9_guiltOf (l : Launch) (G : GT) (hG : Dw G) (x1 : Int32) (σ : St) (o : Int32) (hF : f_X9_guiltOf x1 σ = some o) : Ct l G yX9_guiltOf wsX9_guiltOf 2 42 [.ref (gA G 61), .int x1] σ (some (.int o)) σ := by
  refine Met.ofW (cc := cX9_guiltOf) (maxL := 4) (ret := (some .int)) (by decide) rfl ?_
  intro p e s m args below meth c s₁ B hml hv
  obtain ⟨rfl, hP, hK⟩ := hv
  have hx := B.exec
  have hb := B.bytes
  have hr := B.returns
  have hts := atoms_spec (ws := wsX9_guiltOf) B.pre
  have hown : s.vm.findClass RX9 = some m.cls := findClass_of_methodNamed B.named
  have hlocks := B.notSynchronized
  have Z : CallFix p m c cX9_guiltOf 4 s _ wsX9_guiltOf RX9 := ⟨hx, hb, hml, hown, hts⟩
  have hS : va_S (AG G) s.heap s.heap [] := va_S.rf
  have inX9 : ∀ w ∈ u_ws RX9 TX9 21, w ∈ wsX9_guiltOf := by decide +kernel
  have w1 := hts (.fieldLink RX9 9 "AlmanacOfTheYearGoneModel" "s" "[I") (by decide +kernel)
  have hl := lv_entry ([.ref (gA G 61), .int x1]) (n := 4) (Nat.le_of_ble_eq_true rfl)
  rw [lg_entry_eq]
  generalize (lg_sl ([.ref (gA G 61), .int x1]) ++ List.replicate (4 - (lg_sl ([.ref (gA G 61), .int x1])).length) Slot.unset).toArray = ls at hl ⊢
  have hl : lv_has ls 4 [(0, .ref (gA G 61)), (1, .int x1)] := hl
  unfold f_X9_guiltOf at hF
  refine lv_iconst (v := 0) hx hb dX9_guiltOf_0 (by decide) ?_
  refine lv_istore_n (lv' := [(2, .int (0 : Int32)), (0, .ref (gA G 61)), (1, .int x1)]) hx hb dX9_guiltOf_1 rfl hl (by decide) rfl (fun ls hl => ?_)
  refine lv_iconst (v := 0) hx hb dX9_guiltOf_2 (by decide) ?_
  have J4 : ∀ (fl : Nat) (v2 : Int32) (v3 : Int32) (H : Heap) (locs : List Loc) (hP : Pw G σ H) (hS : va_S (AG G) s.heap H locs) (ls : Array Slot) (hl : lv_has ls 4 [(0, .ref (gA G 61)), (1, .int x1), (2, .int v2), (3, .int v3)]) (hF : f_X9_guiltOf_4 x1 σ fl v2 v3 = some o), W p l e (headSpec wsX9_guiltOf ({ frames := 2, cells := 0, slots := 0, locals := 42 })).room s m ([.ref (gA G 61), .int x1] : List Value).toArray below meth c H locs 0 0 (MQ below (qR G (some (.int o)) σ) ([.ref (gA G 61), .int x1] : List Value).toArray s 0 0 (AG G)) (F0 m 4 ls []) := by
    intro fl4
    induction fl4 with
    | zero => intro v2 v3 H locs hP hS ls hl hF; cases hF
    | succ fl4 ih4 =>
      intro v2 v3 H locs hP hS ls hl hF
      rw [f_X9_guiltOf_4_s] at hF
      refine lv_iload_n hx hb dX9_guiltOf_4 rfl (lv_at hl 3 rfl) ?_
      refine lv_aload_n hx hb dX9_guiltOf_5 rfl (lv_at hl 0 rfl) ?_
      refine va_get (ci := 5) (C := RX9) (T := TX9) (N := 21) (v := .ref (gA G 62)) hx hb hts inX9 hown hK.1 hP 61 (at_5 rfl) rfl 0 (by decide) w1 (fun _ h9 => h9) rfl dX9_guiltOf_6 ?_
      refine lv_iconst (v := 0) hx hb dX9_guiltOf_9 (by decide) ?_
      refine va_iald hx hb hK.1 hP 62 0 (at_6 (rfl : kd 62 = 6) (rfl : ln 62 = 52)) rfl (inb_in (by decide)) dX9_guiltOf_10 ?_
      refine W.eq (g2 := F0 m 11 ls ([.int (σ 62 0), .int v3])) rfl ?_
      refine lv_icmp_ge (tgt := 75) hx hb dX9_guiltOf_11 (by decide) (fun c1 => ?_) (fun c1 => ?_)
      · have hF := ite_t c1 hF
        refine lv_iload_n hx hb dX9_guiltOf_75 rfl (lv_at hl 2 rfl) ?_
        exact e_iP hx hb hr hP hS hlocks dX9_guiltOf_76 hF
      · have hF := ite_f c1 hF
        refine lv_iload_n hx hb dX9_guiltOf_14 rfl (lv_at hl 2 rfl) ?_
        refine lv_aload_n hx hb dX9_guiltOf_15 rfl (lv_at hl 0 rfl) ?_
        refine va_get (ci := 5) (C := RX9) (T := TX9) (N := 21) (v := .ref (gA G 62)) hx hb hts inX9 hown hK.1 hP 61 (at_5 rfl) rfl 0 (by decide) w1 (fun _ h9 => h9) rfl dX9_guiltOf_16 ?_
        refine lv_iload_n hx hb dX9_guiltOf_19 rfl (lv_at hl 3 rfl) ?_
        obtain ⟨q2, h3, hF⟩ := ob_some hF
        refine k_Sv (As := [.ref (gA G 62), .int v3]) (rest := [.int v2]) Z hK hP hS (t_X9_isTold l G hG 62 v3 ⟨(rfl : kd 62 = 6), (rfl : ln 62 = 52)⟩ σ _ h3) (va_cwS 2 hts gX9_guiltOf_X9_isTold rfl rfl rfl (by decide +kernel) ⟨Nat.le_of_ble_eq_true rfl, Nat.le_of_ble_eq_true rfl⟩) rfl hl.1 rfl (Nat.le_of_ble_eq_true rfl) ⟨Nat.zero_le _, Nat.zero_le _⟩ dX9_guiltOf_20 (fun H locs hP hS => ?_)
        have J67 : ∀ (v3 : Int32) (z0 : Int32) (z1 : Int32) (H : Heap) (locs : List Loc) (hP : Pw G σ H) (hS : va_S (AG G) s.heap H locs) (ls : Array Slot) (hl : lv_has ls 4 [(0, .ref (gA G 61)), (1, .int x1), (3, .int v3)]) (hF : f_X9_guiltOf_67 x1 σ (f_X9_guiltOf_4 x1 σ fl4) v3 z0 z1 = some o), W p l e (headSpec wsX9_guiltOf ({ frames := 2, cells := 0, slots := 0, locals := 42 })).room s m ([.ref (gA G 61), .int x1] : List Value).toArray below meth c H locs 0 0 (MQ below (qR G (some (.int o)) σ) ([.ref (gA G 61), .int x1] : List Value).toArray s 0 0 (AG G)) (F0 m 67 ls [.int z1, .int z0]) := by
          intro v3 z0 z1 H locs hP hS ls hl hF
          rw [f_X9_guiltOf_67_e] at hF
          refine lv_iadd hx hb dX9_guiltOf_67 ?_
          refine lv_istore_n (lv' := [(2, .int (z0 + z1)), (0, .ref (gA G 61)), (1, .int x1), (3, .int v3)]) hx hb dX9_guiltOf_68 rfl hl (by decide) rfl (fun ls hl => ?_)
          refine lv_iinc (v := (v3 + (1 : Int32))) (lv' := [(3, .int (v3 + (1 : Int32))), (2, .int (z0 + z1)), (0, .ref (gA G 61)), (1, .int x1)]) hx hb dX9_guiltOf_69 hl (k := 3) rfl rfl (by decide) rfl (fun ls hl => ?_)
          refine lv_goto (tgt := 4) hx hb dX9_guiltOf_72 (by decide) ?_
          exact ih4 (z0 + z1) (v3 + (1 : Int32)) _ _ hP hS ls (lv_sub hl [2, 3, 1, 0] rfl) hF
        have J66 : ∀ (v3 : Int32) (z0 : Int32) (H : Heap) (locs : List Loc) (hP : Pw G σ H) (hS : va_S (AG G) s.heap H locs) (ls : Array Slot) (hl : lv_has ls 4 [(0, .ref (gA G 61)), (1, .int x1), (3, .int v3)]) (hF : f_X9_guiltOf_66 x1 σ (f_X9_guiltOf_4 x1 σ fl4) v3 z0 = some o), W p l e (headSpec wsX9_guiltOf ({ frames := 2, cells := 0, slots := 0, locals := 42 })).room s m ([.ref (gA G 61), .int x1] : List Value).toArray below meth c H locs 0 0 (MQ below (qR G (some (.int o)) σ) ([.ref (gA G 61), .int x1] : List Value).toArray s 0 0 (AG G)) (F0 m 66 ls [.int z0]) := by
          intro v3 z0 H locs hP hS ls hl hF
          rw [f_X9_guiltOf_66_e] at hF
          refine lv_iconst (v := 0) hx hb dX9_guiltOf_66 (by decide) ?_
          exact J67 v3 z0 (0 : Int32) _ _ hP hS ls (lv_sub hl [0, 1, 2] rfl) hF
        refine lv_if_eq (tgt := 66) hx hb dX9_guiltOf_23 (by decide) (fun c4 => ?_) (fun c4 => ?_)
        · have hF := ite_f (b2i_e0 c4) hF
          exact J66 v3 v2 _ _ hP hS ls (lv_sub hl [0, 1, 3] rfl) hF
        · have hF := ite_t (b2i_n0 c4) hF
          refine lv_aload_n hx hb dX9_guiltOf_26 rfl (lv_at hl 0 rfl) ?_
          refine va_get (ci := 5) (C := RX9) (T := TX9) (N := 21) (v := .ref (gA G 62)) hx hb hts inX9 hown hK.1 hP 61 (at_5 rfl) rfl 0 (by decide) w1 (fun _ h9 => h9) rfl dX9_guiltOf_27 ?_
          refine lv_iload_n hx hb dX9_guiltOf_30 rfl (lv_at hl 3 rfl) ?_
          refine lv_iconst (v := 3) hx hb dX9_guiltOf_31 (by decide) ?_
          refine k_Sv (As := [.int v3, .int (3 : Int32)]) (rest := [.ref (gA G 62), .int v2]) Z hK hP hS (t_X9_of l G hG v3 (3 : Int32) σ) (va_cwS 2 hts gX9_guiltOf_X9_of rfl rfl rfl (by decide +kernel) ⟨Nat.le_of_ble_eq_true rfl, Nat.le_of_ble_eq_true rfl⟩) rfl hl.1 rfl (Nat.le_of_ble_eq_true rfl) ⟨Nat.zero_le _, Nat.zero_le _⟩ dX9_guiltOf_32 (fun H locs hP hS => ?_)
          obtain ⟨b5, hF⟩ := ite_some hF
          refine va_iald hx hb hK.1 hP 62 0 (at_6 (rfl : kd 62 = 6) (rfl : ln 62 = 52)) rfl (inb_in b5) dX9_guiltOf_35 ?_
          refine lv_iload_n hx hb dX9_guiltOf_36 rfl (lv_at hl 1 rfl) ?_
          refine lv_icmp_ne (tgt := 66) hx hb dX9_guiltOf_37 (by decide) (fun c6 => ?_) (fun c6 => ?_)
          · have hF := ite_f c6 hF
            exact J66 v3 v2 _ _ hP hS ls (lv_sub hl [0, 1, 3] rfl) hF
          · have hF := ite_t c6 hF
            refine lv_aload_n hx hb dX9_guiltOf_40 rfl (lv_at hl 0 rfl) ?_
            refine va_get (ci := 5) (C := RX9) (T := TX9) (N := 21) (v := .ref (gA G 62)) hx hb hts inX9 hown hK.1 hP 61 (at_5 rfl) rfl 0 (by decide) w1 (fun _ h9 => h9) rfl dX9_guiltOf_41 ?_
            refine lv_iload_n hx hb dX9_guiltOf_44 rfl (lv_at hl 3 rfl) ?_
            refine lv_iconst (v := 0) hx hb dX9_guiltOf_45 (by decide) ?_
            refine k_Sv (As := [.int v3, .int (0 : Int32)]) (rest := [.ref (gA G 62), .int v2]) Z hK hP hS (t_X9_of l G hG v3 (0 : Int32) σ) (va_cwS 2 hts gX9_guiltOf_X9_of rfl rfl rfl (by decide +kernel) ⟨Nat.le_of_ble_eq_true rfl, Nat.le_of_ble_eq_true rfl⟩) rfl hl.1 rfl (Nat.le_of_ble_eq_true rfl) ⟨Nat.zero_le _, Nat.zero_le _⟩ dX9_guiltOf_46 (fun H locs hP hS => ?_)
            obtain ⟨b7, hF⟩ := ite_some hF
            refine va_iald hx hb hK.1 hP 62 0 (at_6 (rfl : kd 62 = 6) (rfl : ln 62 = 52)) rfl (inb_in b7) dX9_guiltOf_49 ?_
            refine lv_aload_n hx hb dX9_guiltOf_50 rfl (lv_at hl 0 rfl) ?_
            refine va_get (ci := 5) (C := RX9) (T := TX9) (N := 21) (v := .ref (gA G 62)) hx hb hts inX9 hown hK.1 hP 61 (at_5 rfl) rfl 0 (by decide) w1 (fun _ h9 => h9) rfl dX9_guiltOf_51 ?_
            refine lv_iload_n hx hb dX9_guiltOf_54 rfl (lv_at hl 3 rfl) ?_
            refine lv_iconst (v := 1) hx hb dX9_guiltOf_55 (by decide) ?_
            refine k_Sv (As := [.int v3, .int (1 : Int32)]) (rest := [.ref (gA G 62), .int (σ 62 (f_X9_of v3 (0 : Int32)).toNatClampNeg), .int v2]) Z hK hP hS (t_X9_of l G hG v3 (1 : Int32) σ) (va_cwS 2 hts gX9_guiltOf_X9_of rfl rfl rfl (by decide +kernel) ⟨Nat.le_of_ble_eq_true rfl, Nat.le_of_ble_eq_true rfl⟩) rfl hl.1 rfl (Nat.le_of_ble_eq_true rfl) ⟨Nat.zero_le _, Nat.zero_le _⟩ dX9_guiltOf_56 (fun H locs hP hS => ?_)
            obtain ⟨b8, hF⟩ := ite_some hF
            refine va_iald hx hb hK.1 hP 62 0 (at_6 (rfl : kd 62 = 6) (rfl : ln 62 = 52)) rfl (inb_in b8) dX9_guiltOf_59 ?_
            refine k_Sv (As := [.int (σ 62 (f_X9_of v3 (0 : Int32)).toNatClampNeg), .int (σ 62 (f_X9_of v3 (1 : Int32)).toNatClampNeg)]) (rest := [.int v2]) Z hK hP hS (t_X9_guiltBy l G hG (σ 62 (f_X9_of v3 (0 : Int32)).toNatClampNeg) (σ 62 (f_X9_of v3 (1 : Int32)).toNatClampNeg) σ) (va_cwS 2 hts gX9_guiltOf_X9_guiltBy rfl rfl rfl (by decide +kernel) ⟨Nat.le_of_ble_eq_true rfl, Nat.le_of_ble_eq_true rfl⟩) rfl hl.1 rfl (Nat.le_of_ble_eq_true rfl) ⟨Nat.zero_le _, Nat.zero_le _⟩ dX9_guiltOf_60 (fun H locs hP hS => ?_)
            refine lv_goto (tgt := 67) hx hb dX9_guiltOf_63 (by decide) ?_
            exact J67 v3 v2 (f_X9_guiltBy (σ 62 (f_X9_of v3 (0 : Int32)).toNatClampNeg) (σ 62 (f_X9_of v3 (1 : Int32)).toNatClampNeg)) _ _ hP hS ls (lv_sub hl [0, 1, 3] rfl) hF
  refine lv_istore_n (lv' := [(3, .int (0 : Int32)), (2, .int (0 : Int32)), (0, .ref (gA G 61)), (1, .int x1)]) hx hb dX9_guiltOf_3 rfl hl (by decide) rfl (fun ls hl => ?_)
  exact J4 fu (0 : Int32) (0 : Int32) _ _ hP hS ls (lv_sub hl [2, 3, 1, 0] rfl) hF
def f_X9_guiltyBy_26 (x1 : Int32) (σ : St) (rec4 : Int32 → Int32 → Option Int32) (v3 : Int32) (z0 : Int32) (z1 : Int32) : Option Int32 := (rec4 (z0 ||| z1) (v3 + (1 : Int32)))
theorem f_X9_guiltyBy_26_e {x1 : Int32} {σ : St} {rec4 : Int32 → Int32 → Option Int32} {v3 : Int32} {z0 : Int32} {z1 : Int32} : f_X9_guiltyBy_26 x1 σ rec4 v3 z0 z1 = (rec4 (z0 ||| z1) (v3 + (1 : Int32))) := rfl
def f_X9_guiltyBy_4 (x1 : Int32) (σ : St) : Nat → (Int32 → Int32 → Option Int32)
  | 0 => fun _ _ => none
  | fl + 1 => fun v2 v3 => (if (5 : Int32) ≤ v3 then (some v2) else (ob (f_X9_guiltOf v3 σ) (fun q2 => if q2 < x1 then (f_X9_guiltyBy_26 x1 σ (f_X9_guiltyBy_4 x1 σ fl) v3 v2 (0 : Int32)) else (f_X9_guiltyBy_26 x1 σ (f_X9_guiltyBy_4 x1 σ fl) v3 v2 ((1 : Int32) <<< (v3 &&& 31))))))
theorem f_X9_guiltyBy_4_s {x1 : Int32} {σ : St} (fl : Nat) {v2 : Int32} {v3 : Int32} : f_X9_guiltyBy_4 x1 σ (fl + 1) v2 v3 = (if (5 : Int32) ≤ v3 then (some v2) else (ob (f_X9_guiltOf v3 σ) (fun q2 => if q2 < x1 then (f_X9_guiltyBy_26 x1 σ (f_X9_guiltyBy_4 x1 σ fl) v3 v2 (0 : Int32)) else (f_X9_guiltyBy_26 x1 σ (f_X9_guiltyBy_4 x1 σ fl) v3 v2 ((1 : Int32) <<< (v3 &&& 31)))))) := rfl
def f_X9_guiltyBy (x1 : Int32) (σ : St) : Option Int32 := (f_X9_guiltyBy_4 x1 σ fu (0 : Int32) (0 : Int32))
set_option maxRecDepth 100000 in
set_option maxHeartbeats 4000000 in
theorem t_X9_guiltyBy (l : Launch) (G : GT) (hG : Dw G) (x1 : Int32) (σ : St) (o : Int32) (hF : f_X9_guiltyBy x1 σ = some o) : Ct l G yX9_guiltyBy wsX9_guiltyBy 3 65 [.ref (gA G 61), .int x1] σ (some (.int o)) σ := by
  refine Met.ofW (cc := cX9_guiltyBy) (maxL := 4) (ret := (some .int)) (by decide) rfl ?_
  intro p e s m args below meth c s₁ B hml hv
  obtain ⟨rfl, hP, hK⟩ := hv
  have hx := B.exec
  have hb := B.bytes
  have hr := B.returns
  have hts := atoms_spec (ws := wsX9_guiltyBy) B.pre
  have hown : s.vm.findClass RX9 = some m.cls := findClass_of_methodNamed B.named
  have hlocks := B.notSynchronized
  have Z : CallFix p m c cX9_guiltyBy 4 s _ wsX9_guiltyBy RX9 := ⟨hx, hb, hml, hown, hts⟩
  have hS : va_S (AG G) s.heap s.heap [] := va_S.rf
  have hl := lv_entry ([.ref (gA G 61), .int x1]) (n := 4) (Nat.le_of_ble_eq_true rfl)
  rw [lg_entry_eq]
  generalize (lg_sl ([.ref (gA G 61), .int x1]) ++ List.replicate (4 - (lg_sl ([.ref (gA G 61), .int x1])).length) Slot.unset).toArray = ls at hl ⊢
  have hl : lv_has ls 4 [(0, .ref (gA G 61)), (1, .int x1)] := hl
  unfold f_X9_guiltyBy at hF
  refine lv_iconst (v := 0) hx hb dX9_guiltyBy_0 (by decide) ?_
  refine lv_istore_n (lv' := [(2, .int (0 : Int32)), (0, .ref (gA G 61)), (1, .int x1)]) hx hb dX9_guiltyBy_1 rfl hl (by decide) rfl (fun ls hl => ?_)
  refine lv_iconst (v := 0) hx hb dX9_guiltyBy_2 (by decide) ?_
  have J4 : ∀ (fl : Nat) (v2 : Int32) (v3 : Int32) (H : Heap) (locs : List Loc) (hP : Pw G σ H) (hS : va_S (AG G) s.heap H locs) (ls : Array Slot) (hl : lv_has ls 4 [(0, .ref (gA G 61)), (1, .int x1), (2, .int v2), (3, .int v3)]) (hF : f_X9_guiltyBy_4 x1 σ fl v2 v3 = some o), W p l e (headSpec wsX9_guiltyBy ({ frames := 3, cells := 0, slots := 0, locals := 65 })).room s m ([.ref (gA G 61), .int x1] : List Value).toArray below meth c H locs 0 0 (MQ below (qR G (some (.int o)) σ) ([.ref (gA G 61), .int x1] : List Value).toArray s 0 0 (AG G)) (F0 m 4 ls []) := by
    intro fl4
    induction fl4 with
    | zero => intro v2 v3 H locs hP hS ls hl hF; cases hF
    | succ fl4 ih4 =>
      intro v2 v3 H locs hP hS ls hl hF
      rw [f_X9_guiltyBy_4_s] at hF
      refine lv_iload_n hx hb dX9_guiltyBy_4 rfl (lv_at hl 3 rfl) ?_
      refine lv_iconst (v := 5) hx hb dX9_guiltyBy_5 (by decide) ?_
      refine lv_icmp_ge (tgt := 34) hx hb dX9_guiltyBy_6 (by decide) (fun c1 => ?_) (fun c1 => ?_)
      · have hF := ite_t c1 hF
        refine lv_iload_n hx hb dX9_guiltyBy_34 rfl (lv_at hl 2 rfl) ?_
        exact e_iP hx hb hr hP hS hlocks dX9_guiltyBy_35 hF
      · have hF := ite_f c1 hF
        refine lv_iload_n hx hb dX9_guiltyBy_9 rfl (lv_at hl 2 rfl) ?_
        refine lv_aload_n hx hb dX9_guiltyBy_10 rfl (lv_at hl 0 rfl) ?_
        refine lv_iload_n hx hb dX9_guiltyBy_11 rfl (lv_at hl 3 rfl) ?_
        obtain ⟨q2, h3, hF⟩ := ob_some hF
        refine k_Vv (As := [.int v3]) (rest := [.int v2]) Z hK hP hS (t_X9_guiltOf l G hG v3 σ _ h3) (cwV 1 hts gX9_guiltyBy_X9_guiltOf rfl rfl rfl (by decide +kernel) ⟨Nat.le_of_ble_eq_true rfl, Nat.le_of_ble_eq_true rfl⟩) (at_5 rfl) rfl rfl hl.1 rfl (Nat.le_of_ble_eq_true rfl) ⟨Nat.zero_le _, Nat.zero_le _⟩ dX9_guiltyBy_12 (fun H locs hP hS => ?_)
        refine lv_iload_n hx hb dX9_guiltyBy_15 rfl (lv_at hl 1 rfl) ?_
        have J26 : ∀ (v3 : Int32) (z0 : Int32) (z1 : Int32) (H : Heap) (locs : List Loc) (hP : Pw G σ H) (hS : va_S (AG G) s.heap H locs) (ls : Array Slot) (hl : lv_has ls 4 [(0, .ref (gA G 61)), (1, .int x1), (3, .int v3)]) (hF : f_X9_guiltyBy_26 x1 σ (f_X9_guiltyBy_4 x1 σ fl4) v3 z0 z1 = some o), W p l e (headSpec wsX9_guiltyBy ({ frames := 3, cells := 0, slots := 0, locals := 65 })).room s m ([.ref (gA G 61), .int x1] : List Value).toArray below meth c H locs 0 0 (MQ below (qR G (some (.int o)) σ) ([.ref (gA G 61), .int x1] : List Value).toArray s 0 0 (AG G)) (F0 m 26 ls [.int z1, .int z0]) := by
          intro v3 z0 z1 H locs hP hS ls hl hF
          rw [f_X9_guiltyBy_26_e] at hF
          refine lv_ior hx hb dX9_guiltyBy_26 ?_
          refine lv_istore_n (lv' := [(2, .int (z0 ||| z1)), (0, .ref (gA G 61)), (1, .int x1), (3, .int v3)]) hx hb dX9_guiltyBy_27 rfl hl (by decide) rfl (fun ls hl => ?_)
          refine lv_iinc (v := (v3 + (1 : Int32))) (lv' := [(3, .int (v3 + (1 : Int32))), (2, .int (z0 ||| z1)), (0, .ref (gA G 61)), (1, .int x1)]) hx hb dX9_guiltyBy_28 hl (k := 3) rfl rfl (by decide) rfl (fun ls hl => ?_)
          refine lv_goto (tgt := 4) hx hb dX9_guiltyBy_31 (by decide) ?_
          exact ih4 (z0 ||| z1) (v3 + (1 : Int32)) _ _ hP hS ls (lv_sub hl [2, 3, 1, 0] rfl) hF
        refine lv_icmp_lt (tgt := 25) hx hb dX9_guiltyBy_16 (by decide) (fun c4 => ?_) (fun c4 => ?_)
        · have hF := ite_t c4 hF
          refine lv_iconst (v := 0) hx hb dX9_guiltyBy_25 (by decide) ?_
          exact J26 v3 v2 (0 : Int32) _ _ hP hS ls (lv_sub hl [0, 1, 3] rfl) hF
        · have hF := ite_f c4 hF
          refine lv_iconst (v := 1) hx hb dX9_guiltyBy_19 (by decide) ?_
          refine lv_iload_n hx hb dX9_guiltyBy_20 rfl (lv_at hl 3 rfl) ?_
          refine lv_ishl hx hb dX9_guiltyBy_21 ?_
          refine lv_goto (tgt := 26) hx hb dX9_guiltyBy_22 (by decide) ?_
          exact J26 v3 v2 ((1 : Int32) <<< (v3 &&& 31)) _ _ hP hS ls (lv_sub hl [0, 1, 3] rfl) hF
  refine lv_istore_n (lv' := [(3, .int (0 : Int32)), (2, .int (0 : Int32)), (0, .ref (gA G 61)), (1, .int x1)]) hx hb dX9_guiltyBy_3 rfl hl (by decide) rfl (fun ls hl => ?_)
  exact J4 fu (0 : Int32) (0 : Int32) _ _ hP hS ls (lv_sub hl [2, 3, 1, 0] rfl) hF
def f_X9_guilty (x1 : Int32) (σ : St) : Option Int32 := (if (f_X9_isIn x1 (-30 : Int32) (99 : Int32)) = true then (ob (f_X9_guiltyBy x1 σ) (fun q2 => some q2)) else (some (-1 : Int32)))
set_option maxRecDepth 100000 in
set_option maxHeartbeats 4000000 in
theorem t_X9_guilty (l : Launch) (G : GT) (hG : Dw G) (x1 : Int32) (σ : St) (o : Int32) (hF : f_X9_guilty x1 σ = some o) : Ct l G yX9_guilty wsX9_guilty 4 88 [.ref (gA G 61), .int x1] σ (some (.int o)) σ := by
  refine Met.ofW (cc := cX9_guilty) (maxL := 2) (ret := (some .int)) (by decide) rfl ?_
  intro p e s m args below meth c s₁ B hml hv
  obtain ⟨rfl, hP, hK⟩ := hv
  have hx := B.exec
  have hb := B.bytes
  have hr := B.returns
  have hts := atoms_spec (ws := wsX9_guilty) B.pre
  have hown : s.vm.findClass RX9 = some m.cls := findClass_of_methodNamed B.named
  have hlocks := B.notSynchronized
  have Z : CallFix p m c cX9_guilty 2 s _ wsX9_guilty RX9 := ⟨hx, hb, hml, hown, hts⟩
  have hS : va_S (AG G) s.heap s.heap [] := va_S.rf
  have hl := lv_entry ([.ref (gA G 61), .int x1]) (n := 2) (Nat.le_of_ble_eq_true rfl)
  rw [lg_entry_eq]
  generalize (lg_sl ([.ref (gA G 61), .int x1]) ++ List.replicate (2 - (lg_sl ([.ref (gA G 61), .int x1])).length) Slot.unset).toArray = ls at hl ⊢
  have hl : lv_has ls 2 [(0, .ref (gA G 61)), (1, .int x1)] := hl
  unfold f_X9_guilty at hF
  refine lv_iload_n hx hb dX9_guilty_0 rfl (lv_at hl 1 rfl) ?_
  refine lv_bipush (v := -30) hx hb dX9_guilty_1 (by decide) ?_
  refine lv_bipush (v := 99) hx hb dX9_guilty_3 (by decide) ?_
  refine k_Sv (As := [.int x1, .int (-30 : Int32), .int (99 : Int32)]) (rest := []) Z hK hP hS (t_X9_isIn l G hG x1 (-30 : Int32) (99 : Int32) σ) (va_cwS 3 hts gX9_guilty_X9_isIn rfl rfl rfl (by decide +kernel) ⟨Nat.le_of_ble_eq_true rfl, Nat.le_of_ble_eq_true rfl⟩) rfl hl.1 rfl (Nat.le_of_ble_eq_true rfl) ⟨Nat.zero_le _, Nat.zero_le _⟩ dX9_guilty_5 (fun H locs hP hS => ?_)
  refine lv_if_eq (tgt := 19) hx hb dX9_guilty_8 (by decide) (fun c1 => ?_) (fun c1 => ?_)
  · have hF := ite_f (b2i_e0 c1) hF
    refine lv_iconst (v := -1) hx hb dX9_guilty_19 (by decide) ?_
    exact e_iP hx hb hr hP hS hlocks dX9_guilty_20 hF
  · have hF := ite_t (b2i_n0 c1) hF
    refine lv_aload_n hx hb dX9_guilty_11 rfl (lv_at hl 0 rfl) ?_
    refine lv_iload_n hx hb dX9_guilty_12 rfl (lv_at hl 1 rfl) ?_
    obtain ⟨q2, h3, hF⟩ := ob_some hF
    refine k_Vv (As := [.int x1]) (rest := []) Z hK hP hS (t_X9_guiltyBy l G hG x1 σ _ h3) (cwV 1 hts gX9_guilty_X9_guiltyBy rfl rfl rfl (by decide +kernel) ⟨Nat.le_of_ble_eq_true rfl, Nat.le_of_ble_eq_true rfl⟩) (at_5 rfl) rfl rfl hl.1 rfl (Nat.le_of_ble_eq_true rfl) ⟨Nat.zero_le _, Nat.zero_le _⟩ dX9_guilty_13 (fun H locs hP hS => ?_)
    refine lv_goto (tgt := 20) hx hb dX9_guilty_16 (by decide) ?_
    exact e_iP hx hb hr hP hS hlocks dX9_guilty_20 hF
def f_X9_price_54 (x1 : Int32) (σ : St) (rec18 : Int32 → Int32 → Int32 → Option Int32) (v2 : Int32) (v3 : Int32) (v4 : Int32) : Option Int32 := (rec18 v2 v3 (v4 + (1 : Int32)))
theorem f_X9_price_54_e {x1 : Int32} {σ : St} {rec18 : Int32 → Int32 → Int32 → Option Int32} {v2 : Int32} {v3 : Int32} {v4 : Int32} : f_X9_price_54 x1 σ rec18 v2 v3 v4 = (rec18 v2 v3 (v4 + (1 : Int32))) := rfl
def f_X9_price_18 (x1 : Int32) (σ : St) : Nat → (Int32 → Int32 → Int32 → Option Int32)
  | 0 => fun _ _ _ => none
  | fl + 1 => fun v2 v3 v4 => (if (99 : Int32) < v4 then (if x1 = 0 then (some v2) else (some v3)) else (ob (f_X9_guiltyBy v4 σ) (fun q4 => ob (f_X9_bits q4 σ) (fun q6 => if v3 < (v4 * q6) then (f_X9_price_54 x1 σ (f_X9_price_18 x1 σ fl) v4 (v4 * q6) v4) else (f_X9_price_54 x1 σ (f_X9_price_18 x1 σ fl) v2 v3 v4)))))
theorem f_X9_price_18_s {x1 : Int32} {σ : St} (fl : Nat) {v2 : Int32} {v3 : Int32} {v4 : Int32} : f_X9_price_18 x1 σ (fl + 1) v2 v3 v4 = (if (99 : Int32) < v4 then (if x1 = 0 then (some v2) else (some v3)) else (ob (f_X9_guiltyBy v4 σ) (fun q4 => ob (f_X9_bits q4 σ) (fun q6 => if v3 < (v4 * q6) then (f_X9_price_54 x1 σ (f_X9_price_18 x1 σ fl) v4 (v4 * q6) v4) else (f_X9_price_54 x1 σ (f_X9_price_18 x1 σ fl) v2 v3 v4))))) := rfl
def f_X9_price (x1 : Int32) (σ : St) : Option Int32 := (if (f_X9_isIn x1 (0 : Int32) (1 : Int32)) = true then (f_X9_price_18 x1 σ fu (1 : Int32) (-1 : Int32) (1 : Int32)) else (some (-1 : Int32)))
set_option maxRecDepth 100000 in
set_option maxHeartbeats 4000000 in
theorem t_X9_price (l : Launch) (G : GT) (hG : Dw G) (x1 : Int32) (σ : St) (o : Int32) (hF : f_X9_price x1 σ = some o) : Ct l G yX9_price wsX9_price 4 88 [.ref (gA G 61), .int x1] σ (some (.int o)) σ := by
  refine Met.ofW (cc := cX9_price) (maxL := 6) (ret := (some .int)) (by decide) rfl ?_
  intro p e s m args below meth c s₁ B hml hv
  obtain ⟨rfl, hP, hK⟩ := hv
  have hx := B.exec
  have hb := B.bytes
  have hr := B.returns
  have hts := atoms_spec (ws := wsX9_price) B.pre
  have hown : s.vm.findClass RX9 = some m.cls := findClass_of_methodNamed B.named
  have hlocks := B.notSynchronized
  have Z : CallFix p m c cX9_price 6 s _ wsX9_price RX9 := ⟨hx, hb, hml, hown, hts⟩
  have hS : va_S (AG G) s.heap s.heap [] := va_S.rf
  have hl := lv_entry ([.ref (gA G 61), .int x1]) (n := 6) (Nat.le_of_ble_eq_true rfl)
  rw [lg_entry_eq]
  generalize (lg_sl ([.ref (gA G 61), .int x1]) ++ List.replicate (6 - (lg_sl ([.ref (gA G 61), .int x1])).length) Slot.unset).toArray = ls at hl ⊢
  have hl : lv_has ls 6 [(0, .ref (gA G 61)), (1, .int x1)] := hl
  unfold f_X9_price at hF
  refine lv_iload_n hx hb dX9_price_0 rfl (lv_at hl 1 rfl) ?_
  refine lv_iconst (v := 0) hx hb dX9_price_1 (by decide) ?_
  refine lv_iconst (v := 1) hx hb dX9_price_2 (by decide) ?_
  refine k_Sv (As := [.int x1, .int (0 : Int32), .int (1 : Int32)]) (rest := []) Z hK hP hS (t_X9_isIn l G hG x1 (0 : Int32) (1 : Int32) σ) (va_cwS 3 hts gX9_price_X9_isIn rfl rfl rfl (by decide +kernel) ⟨Nat.le_of_ble_eq_true rfl, Nat.le_of_ble_eq_true rfl⟩) rfl hl.1 rfl (Nat.le_of_ble_eq_true rfl) ⟨Nat.zero_le _, Nat.zero_le _⟩ dX9_price_3 (fun H locs hP hS => ?_)
  refine lv_if_ne (tgt := 11) hx hb dX9_price_6 (by decide) (fun c1 => ?_) (fun c1 => ?_)
  · have hF := ite_t (b2i_n0 c1) hF
    refine lv_iconst (v := 1) hx hb dX9_price_11 (by decide) ?_
    refine lv_istore_n (lv' := [(2, .int (1 : Int32)), (0, .ref (gA G 61)), (1, .int x1)]) hx hb dX9_price_12 rfl hl (by decide) rfl (fun ls hl => ?_)
    refine lv_iconst (v := -1) hx hb dX9_price_13 (by decide) ?_
    refine lv_istore_n (lv' := [(3, .int (-1 : Int32)), (2, .int (1 : Int32)), (0, .ref (gA G 61)), (1, .int x1)]) hx hb dX9_price_14 rfl hl (by decide) rfl (fun ls hl => ?_)
    refine lv_iconst (v := 1) hx hb dX9_price_15 (by decide) ?_
    have J18 : ∀ (fl : Nat) (v2 : Int32) (v3 : Int32) (v4 : Int32) (H : Heap) (locs : List Loc) (hP : Pw G σ H) (hS : va_S (AG G) s.heap H locs) (ls : Array Slot) (hl : lv_has ls 6 [(0, .ref (gA G 61)), (1, .int x1), (2, .int v2), (3, .int v3), (4, .int v4)]) (hF : f_X9_price_18 x1 σ fl v2 v3 v4 = some o), W p l e (headSpec wsX9_price ({ frames := 4, cells := 0, slots := 0, locals := 88 })).room s m ([.ref (gA G 61), .int x1] : List Value).toArray below meth c H locs 0 0 (MQ below (qR G (some (.int o)) σ) ([.ref (gA G 61), .int x1] : List Value).toArray s 0 0 (AG G)) (F0 m 18 ls []) := by
      intro fl18
      induction fl18 with
      | zero => intro v2 v3 v4 H locs hP hS ls hl hF; cases hF
      | succ fl18 ih18 =>
        intro v2 v3 v4 H locs hP hS ls hl hF
        rw [f_X9_price_18_s] at hF
        refine lv_iload hx hb dX9_price_18 (lv_at hl 4 rfl) ?_
        refine lv_bipush (v := 99) hx hb dX9_price_20 (by decide) ?_
        refine lv_icmp_gt (tgt := 60) hx hb dX9_price_22 (by decide) (fun c2 => ?_) (fun c2 => ?_)
        · have hF := ite_t c2 hF
          refine lv_iload_n hx hb dX9_price_60 rfl (lv_at hl 1 rfl) ?_
          refine lv_if_ne (tgt := 68) hx hb dX9_price_61 (by decide) (fun c3 => ?_) (fun c3 => ?_)
          · have hF := ite_f c3 hF
            refine lv_iload_n hx hb dX9_price_68 rfl (lv_at hl 3 rfl) ?_
            exact e_iP hx hb hr hP hS hlocks dX9_price_69 hF
          · have hF := ite_t c3 hF
            refine lv_iload_n hx hb dX9_price_64 rfl (lv_at hl 2 rfl) ?_
            refine lv_goto (tgt := 69) hx hb dX9_price_65 (by decide) ?_
            exact e_iP hx hb hr hP hS hlocks dX9_price_69 hF
        · have hF := ite_f c2 hF
          refine lv_iload hx hb dX9_price_25 (lv_at hl 4 rfl) ?_
          refine lv_aload_n hx hb dX9_price_27 rfl (lv_at hl 0 rfl) ?_
          refine lv_iload hx hb dX9_price_28 (lv_at hl 4 rfl) ?_
          obtain ⟨q4, h5, hF⟩ := ob_some hF
          refine k_Vv (As := [.int v4]) (rest := [.int v4]) Z hK hP hS (t_X9_guiltyBy l G hG v4 σ _ h5) (cwV 1 hts gX9_price_X9_guiltyBy rfl rfl rfl (by decide +kernel) ⟨Nat.le_of_ble_eq_true rfl, Nat.le_of_ble_eq_true rfl⟩) (at_5 rfl) rfl rfl hl.1 rfl (Nat.le_of_ble_eq_true rfl) ⟨Nat.zero_le _, Nat.zero_le _⟩ dX9_price_30 (fun H locs hP hS => ?_)
          obtain ⟨q6, h7, hF⟩ := ob_some hF
          refine k_Sv (As := [.int q4]) (rest := [.int v4]) Z hK hP hS (t_X9_bits l G hG q4 σ _ h7) (va_cwS 1 hts gX9_price_X9_bits rfl rfl rfl (by decide +kernel) ⟨Nat.le_of_ble_eq_true rfl, Nat.le_of_ble_eq_true rfl⟩) rfl hl.1 rfl (Nat.le_of_ble_eq_true rfl) ⟨Nat.zero_le _, Nat.zero_le _⟩ dX9_price_33 (fun H locs hP hS => ?_)
          refine lv_imul hx hb dX9_price_36 ?_
          refine lv_istore (lv' := [(5, .int (v4 * q6)), (0, .ref (gA G 61)), (1, .int x1), (2, .int v2), (3, .int v3), (4, .int v4)]) hx hb dX9_price_37 hl (by decide) rfl (fun ls hl => ?_)
          refine lv_iload hx hb dX9_price_39 (lv_at hl 0 rfl) ?_
          refine lv_iload_n hx hb dX9_price_41 rfl (lv_at hl 4 rfl) ?_
          have J54 : ∀ (v2 : Int32) (v3 : Int32) (v4 : Int32) (H : Heap) (locs : List Loc) (hP : Pw G σ H) (hS : va_S (AG G) s.heap H locs) (ls : Array Slot) (hl : lv_has ls 6 [(0, .ref (gA G 61)), (1, .int x1), (2, .int v2), (3, .int v3), (4, .int v4)]) (hF : f_X9_price_54 x1 σ (f_X9_price_18 x1 σ fl18) v2 v3 v4 = some o), W p l e (headSpec wsX9_price ({ frames := 4, cells := 0, slots := 0, locals := 88 })).room s m ([.ref (gA G 61), .int x1] : List Value).toArray below meth c H locs 0 0 (MQ below (qR G (some (.int o)) σ) ([.ref (gA G 61), .int x1] : List Value).toArray s 0 0 (AG G)) (F0 m 54 ls []) := by
            intro v2 v3 v4 H locs hP hS ls hl hF
            rw [f_X9_price_54_e] at hF
            refine lv_iinc (v := (v4 + (1 : Int32))) (lv' := [(4, .int (v4 + (1 : Int32))), (0, .ref (gA G 61)), (1, .int x1), (2, .int v2), (3, .int v3)]) hx hb dX9_price_54 hl (k := 4) rfl rfl (by decide) rfl (fun ls hl => ?_)
            refine lv_goto (tgt := 18) hx hb dX9_price_57 (by decide) ?_
            exact ih18 v2 v3 (v4 + (1 : Int32)) _ _ hP hS ls (lv_sub hl [1, 2, 3, 4, 0] rfl) hF
          refine lv_icmp_gt (tgt := 48) hx hb dX9_price_42 (by decide) (fun c8 => ?_) (fun c8 => ?_)
          · have hF := ite_t c8 hF
            refine lv_iload hx hb dX9_price_48 (lv_at hl 5 rfl) ?_
            refine lv_istore_n (lv' := [(2, .int v4), (5, .int (v4 * q6)), (0, .ref (gA G 61)), (1, .int x1), (3, .int v3), (4, .int v4)]) hx hb dX9_price_50 rfl hl (by decide) rfl (fun ls hl => ?_)
            refine lv_iload hx hb dX9_price_51 (lv_at hl 1 rfl) ?_
            refine lv_istore_n (lv' := [(3, .int (v4 * q6)), (2, .int v4), (5, .int (v4 * q6)), (0, .ref (gA G 61)), (1, .int x1), (4, .int v4)]) hx hb dX9_price_53 rfl hl (by decide) rfl (fun ls hl => ?_)
            exact J54 v4 (v4 * q6) v4 _ _ hP hS ls (lv_sub hl [3, 4, 1, 0, 5] rfl) hF
          · have hF := ite_f c8 hF
            refine lv_goto (tgt := 54) hx hb dX9_price_45 (by decide) ?_
            exact J54 v2 v3 v4 _ _ hP hS ls (lv_sub hl [1, 2, 3, 4, 5] rfl) hF
    refine lv_istore (lv' := [(4, .int (1 : Int32)), (3, .int (-1 : Int32)), (2, .int (1 : Int32)), (0, .ref (gA G 61)), (1, .int x1)]) hx hb dX9_price_16 hl (by decide) rfl (fun ls hl => ?_)
    exact J18 fu (1 : Int32) (-1 : Int32) (1 : Int32) _ _ hP hS ls (lv_sub hl [3, 4, 2, 1, 0] rfl) hF
  · have hF := ite_f (b2i_e0 c1) hF
    refine lv_iconst (v := -1) hx hb dX9_price_9 (by decide) ?_
    exact e_iP hx hb hr hP hS hlocks dX9_price_10 hF
def f_X9_wrongDiary_30 (x1 : Int32) (σ : St) : Nat → (Int32 → Option Int32)
  | 0 => fun _ => none
  | fl + 1 => fun v3 => (if inb x1 8 then if (σ 73 x1.toNatClampNeg) ≤ v3 then (some (0 : Int32)) else (if inb (((100 : Int32) * x1) + v3) 800 then ob (f_X9_isDeed (σ 74 (((100 : Int32) * x1) + v3).toNatClampNeg) σ) (fun q9 => if q9 = true then (if inb ((((100 : Int32) * x1) + v3) + (1 : Int32)) 800 then if (f_X9_isDay (σ 74 ((((100 : Int32) * x1) + v3) + (1 : Int32)).toNatClampNeg)) = true then ((f_X9_wrongDiary_30 x1 σ fl) (v3 + (2 : Int32))) else (some (-13 : Int32)) else none) else (some (-13 : Int32))) else none) else none)
theorem f_X9_wrongDiary_30_s {x1 : Int32} {σ : St} (fl : Nat) {v3 : Int32} : f_X9_wrongDiary_30 x1 σ (fl + 1) v3 = (if inb x1 8 then if (σ 73 x1.toNatClampNeg) ≤ v3 then (some (0 : Int32)) else (if inb (((100 : Int32) * x1) + v3) 800 then ob (f_X9_isDeed (σ 74 (((100 : Int32) * x1) + v3).toNatClampNeg) σ) (fun q9 => if q9 = true then (if inb ((((100 : Int32) * x1) + v3) + (1 : Int32)) 800 then if (f_X9_isDay (σ 74 ((((100 : Int32) * x1) + v3) + (1 : Int32)).toNatClampNeg)) = true then ((f_X9_wrongDiary_30 x1 σ fl) (v3 + (2 : Int32))) else (some (-13 : Int32)) else none) else (some (-13 : Int32))) else none) else none) := rfl
def f_X9_wrongDiary (x1 : Int32) (σ : St) : Option Int32 := (ob (f_X9_wrongRow x1 (-1 : Int32) σ) (fun q1 => if q1 = 0 then (if inb x1 8 then if ((σ 73 x1.toNatClampNeg) - (σ 73 x1.toNatClampNeg) / (2 : Int32) * (2 : Int32)) = (1 : Int32) then (some (-13 : Int32)) else (f_X9_wrongDiary_30 x1 σ fu (0 : Int32)) else none) else (some q1)))
set_option maxRecDepth 100000 in
set_option maxHeartbeats 4000000 in
theorem t_X9_wrongDiary (l : Launch) (G : GT) (hG : Dw G) (x1 : Int32) (σ : St) (o : Int32) (hF : f_X9_wrongDiary x1 σ = some o) : Ct l G yX9_wrongDiary wsX9_wrongDiary 3 64 [.ref (gA G 61), .int x1] σ (some (.int o)) σ := by
  refine Met.ofW (cc := cX9_wrongDiary) (maxL := 4) (ret := (some .int)) (by decide) rfl ?_
  intro p e s m args below meth c s₁ B hml hv
  obtain ⟨rfl, hP, hK⟩ := hv
  have hx := B.exec
  have hb := B.bytes
  have hr := B.returns
  have hts := atoms_spec (ws := wsX9_wrongDiary) B.pre
  have hown : s.vm.findClass RX9 = some m.cls := findClass_of_methodNamed B.named
  have hlocks := B.notSynchronized
  have Z : CallFix p m c cX9_wrongDiary 4 s _ wsX9_wrongDiary RX9 := ⟨hx, hb, hml, hown, hts⟩
  have hS : va_S (AG G) s.heap s.heap [] := va_S.rf
  have inX9 : ∀ w ∈ u_ws RX9 TX9 21, w ∈ wsX9_wrongDiary := by decide +kernel
  have w1 := hts (.fieldLink RX9 43 "AlmanacOfTheYearGoneModel" "size" "[I") (by decide +kernel)
  have w2 := hts (.fieldLink RX9 46 "AlmanacOfTheYearGoneModel" "element" "[I") (by decide +kernel)
  have hl := lv_entry ([.ref (gA G 61), .int x1]) (n := 4) (Nat.le_of_ble_eq_true rfl)
  rw [lg_entry_eq]
  generalize (lg_sl ([.ref (gA G 61), .int x1]) ++ List.replicate (4 - (lg_sl ([.ref (gA G 61), .int x1])).length) Slot.unset).toArray = ls at hl ⊢
  have hl : lv_has ls 4 [(0, .ref (gA G 61)), (1, .int x1)] := hl
  unfold f_X9_wrongDiary at hF
  refine lv_aload_n hx hb dX9_wrongDiary_0 rfl (lv_at hl 0 rfl) ?_
  refine lv_iload_n hx hb dX9_wrongDiary_1 rfl (lv_at hl 1 rfl) ?_
  refine lv_iconst (v := -1) hx hb dX9_wrongDiary_2 (by decide) ?_
  obtain ⟨q1, h2, hF⟩ := ob_some hF
  refine k_Vv (As := [.int x1, .int (-1 : Int32)]) (rest := []) Z hK hP hS (t_X9_wrongRow l G hG x1 (-1 : Int32) σ _ h2) (cwV 2 hts gX9_wrongDiary_X9_wrongRow rfl rfl rfl (by decide +kernel) ⟨Nat.le_of_ble_eq_true rfl, Nat.le_of_ble_eq_true rfl⟩) (at_5 rfl) rfl rfl hl.1 rfl (Nat.le_of_ble_eq_true rfl) ⟨Nat.zero_le _, Nat.zero_le _⟩ dX9_wrongDiary_3 (fun H locs hP hS => ?_)
  refine lv_istore_n (lv' := [(2, .int q1), (0, .ref (gA G 61)), (1, .int x1)]) hx hb dX9_wrongDiary_6 rfl hl (by decide) rfl (fun ls hl => ?_)
  refine lv_iload_n hx hb dX9_wrongDiary_7 rfl (lv_at hl 0 rfl) ?_
  refine lv_if_eq (tgt := 13) hx hb dX9_wrongDiary_8 (by decide) (fun c3 => ?_) (fun c3 => ?_)
  · have hF := ite_t c3 hF
    refine lv_aload_n hx hb dX9_wrongDiary_13 rfl (lv_at hl 1 rfl) ?_
    refine va_get (ci := 5) (C := RX9) (T := TX9) (N := 21) (v := .ref (gA G 73)) hx hb hts inX9 hown hK.1 hP 61 (at_5 rfl) rfl 18 (by decide) w1 (fun _ h9 => h9) rfl dX9_wrongDiary_14 ?_
    refine lv_iload_n hx hb dX9_wrongDiary_17 rfl (lv_at hl 2 rfl) ?_
    obtain ⟨b4, hF⟩ := ite_some hF
    refine va_iald hx hb hK.1 hP 73 0 (at_6 (rfl : kd 73 = 6) (rfl : ln 73 = 8)) rfl (inb_in b4) dX9_wrongDiary_18 ?_
    refine lv_iconst (v := 2) hx hb dX9_wrongDiary_19 (by decide) ?_
    refine lv_irem hx hb dX9_wrongDiary_20 (by decide) ?_
    refine lv_iconst (v := 1) hx hb dX9_wrongDiary_21 (by decide) ?_
    refine lv_icmp_ne (tgt := 28) hx hb dX9_wrongDiary_22 (by decide) (fun c5 => ?_) (fun c5 => ?_)
    · have hF := ite_f c5 hF
      refine lv_iconst (v := 0) hx hb dX9_wrongDiary_28 (by decide) ?_
      have J30 : ∀ (fl : Nat) (v3 : Int32) (H : Heap) (locs : List Loc) (hP : Pw G σ H) (hS : va_S (AG G) s.heap H locs) (ls : Array Slot) (hl : lv_has ls 4 [(0, .ref (gA G 61)), (1, .int x1), (3, .int v3)]) (hF : f_X9_wrongDiary_30 x1 σ fl v3 = some o), W p l e (headSpec wsX9_wrongDiary ({ frames := 3, cells := 0, slots := 0, locals := 64 })).room s m ([.ref (gA G 61), .int x1] : List Value).toArray below meth c H locs 0 0 (MQ below (qR G (some (.int o)) σ) ([.ref (gA G 61), .int x1] : List Value).toArray s 0 0 (AG G)) (F0 m 30 ls []) := by
        intro fl30
        induction fl30 with
        | zero => intro v3 H locs hP hS ls hl hF; cases hF
        | succ fl30 ih30 =>
          intro v3 H locs hP hS ls hl hF
          rw [f_X9_wrongDiary_30_s] at hF
          refine lv_iload_n hx hb dX9_wrongDiary_30 rfl (lv_at hl 2 rfl) ?_
          refine lv_aload_n hx hb dX9_wrongDiary_31 rfl (lv_at hl 0 rfl) ?_
          refine va_get (ci := 5) (C := RX9) (T := TX9) (N := 21) (v := .ref (gA G 73)) hx hb hts inX9 hown hK.1 hP 61 (at_5 rfl) rfl 18 (by decide) w1 (fun _ h9 => h9) rfl dX9_wrongDiary_32 ?_
          refine lv_iload_n hx hb dX9_wrongDiary_35 rfl (lv_at hl 1 rfl) ?_
          obtain ⟨b6, hF⟩ := ite_some hF
          refine va_iald hx hb hK.1 hP 73 0 (at_6 (rfl : kd 73 = 6) (rfl : ln 73 = 8)) rfl (inb_in b6) dX9_wrongDiary_36 ?_
          refine lv_icmp_ge (tgt := 86) hx hb dX9_wrongDiary_37 (by decide) (fun c7 => ?_) (fun c7 => ?_)
          · have hF := ite_t c7 hF
            refine lv_iconst (v := 0) hx hb dX9_wrongDiary_86 (by decide) ?_
            exact e_iP hx hb hr hP hS hlocks dX9_wrongDiary_87 hF
          · have hF := ite_f c7 hF
            refine lv_aload_n hx hb dX9_wrongDiary_40 rfl (lv_at hl 0 rfl) ?_
            refine lv_aload_n hx hb dX9_wrongDiary_41 rfl (lv_at hl 0 rfl) ?_
            refine va_get (ci := 5) (C := RX9) (T := TX9) (N := 21) (v := .ref (gA G 74)) hx hb hts inX9 hown hK.1 hP 61 (at_5 rfl) rfl 19 (by decide) w2 (fun _ h9 => h9) rfl dX9_wrongDiary_42 ?_
            refine lv_bipush (v := 100) hx hb dX9_wrongDiary_45 (by decide) ?_
            refine lv_iload_n hx hb dX9_wrongDiary_47 rfl (lv_at hl 1 rfl) ?_
            refine lv_imul hx hb dX9_wrongDiary_48 ?_
            refine lv_iload_n hx hb dX9_wrongDiary_49 rfl (lv_at hl 2 rfl) ?_
            refine lv_iadd hx hb dX9_wrongDiary_50 ?_
            obtain ⟨b8, hF⟩ := ite_some hF
            refine va_iald hx hb hK.1 hP 74 0 (at_6 (rfl : kd 74 = 6) (rfl : ln 74 = 800)) rfl (inb_in b8) dX9_wrongDiary_51 ?_
            obtain ⟨q9, h10, hF⟩ := ob_some hF
            refine k_Vv (As := [.int (σ 74 (((100 : Int32) * x1) + v3).toNatClampNeg)]) (rest := []) Z hK hP hS (t_X9_isDeed l G hG (σ 74 (((100 : Int32) * x1) + v3).toNatClampNeg) σ _ h10) (cwV 1 hts gX9_wrongDiary_X9_isDeed rfl rfl rfl (by decide +kernel) ⟨Nat.le_of_ble_eq_true rfl, Nat.le_of_ble_eq_true rfl⟩) (at_5 rfl) rfl rfl hl.1 rfl (Nat.le_of_ble_eq_true rfl) ⟨Nat.zero_le _, Nat.zero_le _⟩ dX9_wrongDiary_52 (fun H locs hP hS => ?_)
            refine lv_if_eq (tgt := 77) hx hb dX9_wrongDiary_55 (by decide) (fun c11 => ?_) (fun c11 => ?_)
            · have hF := ite_f (b2i_e0 c11) hF
              refine lv_bipush (v := -13) hx hb dX9_wrongDiary_77 (by decide) ?_
              exact e_iP hx hb hr hP hS hlocks dX9_wrongDiary_79 hF
            · have hF := ite_t (b2i_n0 c11) hF
              refine lv_aload_n hx hb dX9_wrongDiary_58 rfl (lv_at hl 0 rfl) ?_
              refine va_get (ci := 5) (C := RX9) (T := TX9) (N := 21) (v := .ref (gA G 74)) hx hb hts inX9 hown hK.1 hP 61 (at_5 rfl) rfl 19 (by decide) w2 (fun _ h9 => h9) rfl dX9_wrongDiary_59 ?_
              refine lv_bipush (v := 100) hx hb dX9_wrongDiary_62 (by decide) ?_
              refine lv_iload_n hx hb dX9_wrongDiary_64 rfl (lv_at hl 1 rfl) ?_
              refine lv_imul hx hb dX9_wrongDiary_65 ?_
              refine lv_iload_n hx hb dX9_wrongDiary_66 rfl (lv_at hl 2 rfl) ?_
              refine lv_iadd hx hb dX9_wrongDiary_67 ?_
              refine lv_iconst (v := 1) hx hb dX9_wrongDiary_68 (by decide) ?_
              refine lv_iadd hx hb dX9_wrongDiary_69 ?_
              obtain ⟨b12, hF⟩ := ite_some hF
              refine va_iald hx hb hK.1 hP 74 0 (at_6 (rfl : kd 74 = 6) (rfl : ln 74 = 800)) rfl (inb_in b12) dX9_wrongDiary_70 ?_
              refine k_Sv (As := [.int (σ 74 ((((100 : Int32) * x1) + v3) + (1 : Int32)).toNatClampNeg)]) (rest := []) Z hK hP hS (t_X9_isDay l G hG (σ 74 ((((100 : Int32) * x1) + v3) + (1 : Int32)).toNatClampNeg) σ) (va_cwS 1 hts gX9_wrongDiary_X9_isDay rfl rfl rfl (by decide +kernel) ⟨Nat.le_of_ble_eq_true rfl, Nat.le_of_ble_eq_true rfl⟩) rfl hl.1 rfl (Nat.le_of_ble_eq_true rfl) ⟨Nat.zero_le _, Nat.zero_le _⟩ dX9_wrongDiary_71 (fun H locs hP hS => ?_)
              refine lv_if_ne (tgt := 80) hx hb dX9_wrongDiary_74 (by decide) (fun c13 => ?_) (fun c13 => ?_)
              · have hF := ite_t (b2i_n0 c13) hF
                refine lv_iinc (v := (v3 + (2 : Int32))) (lv' := [(3, .int (v3 + (2 : Int32))), (0, .ref (gA G 61)), (1, .int x1)]) hx hb dX9_wrongDiary_80 hl (k := 2) rfl rfl (by decide) rfl (fun ls hl => ?_)
                refine lv_goto (tgt := 30) hx hb dX9_wrongDiary_83 (by decide) ?_
                exact ih30 (v3 + (2 : Int32)) _ _ hP hS ls (lv_sub hl [1, 2, 0] rfl) hF
              · have hF := ite_f (b2i_e0 c13) hF
                refine lv_bipush (v := -13) hx hb dX9_wrongDiary_77 (by decide) ?_
                exact e_iP hx hb hr hP hS hlocks dX9_wrongDiary_79 hF
      refine lv_istore_n (lv' := [(3, .int (0 : Int32)), (2, .int q1), (0, .ref (gA G 61)), (1, .int x1)]) hx hb dX9_wrongDiary_29 rfl hl (by decide) rfl (fun ls hl => ?_)
      exact J30 fu (0 : Int32) _ _ hP hS ls (lv_sub hl [2, 3, 0] rfl) hF
    · have hF := ite_t c5 hF
      refine lv_bipush (v := -13) hx hb dX9_wrongDiary_25 (by decide) ?_
      exact e_iP hx hb hr hP hS hlocks dX9_wrongDiary_27 hF
  · have hF := ite_f c3 hF
    refine lv_iload_n hx hb dX9_wrongDiary_11 rfl (lv_at hl 0 rfl) ?_
    exact e_iP hx hb hr hP hS hlocks dX9_wrongDiary_12 hF
def f_X9_toldOften_62 (x1 : Int32) (x2 : Int32) (x3 : Int32) (σ : St) (rec6 : Int32 → Int32 → Option Int32) (v5 : Int32) (z0 : Int32) (z1 : Int32) : Option Int32 := (rec6 (z0 + z1) (v5 + (2 : Int32)))
theorem f_X9_toldOften_62_e {x1 : Int32} {x2 : Int32} {x3 : Int32} {σ : St} {rec6 : Int32 → Int32 → Option Int32} {v5 : Int32} {z0 : Int32} {z1 : Int32} : f_X9_toldOften_62 x1 x2 x3 σ rec6 v5 z0 z1 = (rec6 (z0 + z1) (v5 + (2 : Int32))) := rfl
def f_X9_toldOften_61 (x1 : Int32) (x2 : Int32) (x3 : Int32) (σ : St) (rec6 : Int32 → Int32 → Option Int32) (v5 : Int32) (z0 : Int32) : Option Int32 := (f_X9_toldOften_62 x1 x2 x3 σ rec6 v5 z0 (0 : Int32))
theorem f_X9_toldOften_61_e {x1 : Int32} {x2 : Int32} {x3 : Int32} {σ : St} {rec6 : Int32 → Int32 → Option Int32} {v5 : Int32} {z0 : Int32} : f_X9_toldOften_61 x1 x2 x3 σ rec6 v5 z0 = (f_X9_toldOften_62 x1 x2 x3 σ rec6 v5 z0 (0 : Int32)) := rfl
def f_X9_toldOften_57 (x1 : Int32) (x2 : Int32) (x3 : Int32) (σ : St) (rec6 : Int32 → Int32 → Option Int32) (v5 : Int32) (z0 : Int32) : Option Int32 := (f_X9_toldOften_62 x1 x2 x3 σ rec6 v5 z0 (1 : Int32))
theorem f_X9_toldOften_57_e {x1 : Int32} {x2 : Int32} {x3 : Int32} {σ : St} {rec6 : Int32 → Int32 → Option Int32} {v5 : Int32} {z0 : Int32} : f_X9_toldOften_57 x1 x2 x3 σ rec6 v5 z0 = (f_X9_toldOften_62 x1 x2 x3 σ rec6 v5 z0 (1 : Int32)) := rfl
def f_X9_toldOften_6 (x1 : Int32) (x2 : Int32) (x3 : Int32) (σ : St) : Nat → (Int32 → Int32 → Option Int32)
  | 0 => fun _ _ => none
  | fl + 1 => fun v4 v5 => (if inb x1 8 then if (σ 73 x1.toNatClampNeg) ≤ v5 then (some v4) else (if inb (((100 : Int32) * x1) + v5) 800 then if (σ 74 (((100 : Int32) * x1) + v5).toNatClampNeg) = x2 then (if x3 < 0 then f_X9_toldOften_57 x1 x2 x3 σ (f_X9_toldOften_6 x1 x2 x3 σ fl) v5 v4 else (if inb ((((100 : Int32) * x1) + v5) + (1 : Int32)) 800 then if (σ 74 ((((100 : Int32) * x1) + v5) + (1 : Int32)).toNatClampNeg) = x3 then f_X9_toldOften_57 x1 x2 x3 σ (f_X9_toldOften_6 x1 x2 x3 σ fl) v5 v4 else f_X9_toldOften_61 x1 x2 x3 σ (f_X9_toldOften_6 x1 x2 x3 σ fl) v5 v4 else none)) else f_X9_toldOften_61 x1 x2 x3 σ (f_X9_toldOften_6 x1 x2 x3 σ fl) v5 v4 else none) else none)
theorem f_X9_toldOften_6_s {x1 : Int32} {x2 : Int32} {x3 : Int32} {σ : St} (fl : Nat) {v4 : Int32} {v5 : Int32} : f_X9_toldOften_6 x1 x2 x3 σ (fl + 1) v4 v5 = (if inb x1 8 then if (σ 73 x1.toNatClampNeg) ≤ v5 then (some v4) else (if inb (((100 : Int32) * x1) + v5) 800 then if (σ 74 (((100 : Int32) * x1) + v5).toNatClampNeg) = x2 then (if x3 < 0 then f_X9_toldOften_57 x1 x2 x3 σ (f_X9_toldOften_6 x1 x2 x3 σ fl) v5 v4 else (if inb ((((100 : Int32) * x1) + v5) + (1 : Int32)) 800 then if (σ 74 ((((100 : Int32) * x1) + v5) + (1 : Int32)).toNatClampNeg) = x3 then f_X9_toldOften_57 x1 x2 x3 σ (f_X9_toldOften_6 x1 x2 x3 σ fl) v5 v4 else f_X9_toldOften_61 x1 x2 x3 σ (f_X9_toldOften_6 x1 x2 x3 σ fl) v5 v4 else none)) else f_X9_toldOften_61 x1 x2 x3 σ (f_X9_toldOften_6 x1 x2 x3 σ fl) v5 v4 else none) else none) := rfl
def f_X9_toldOften (x1 : Int32) (x2 : Int32) (x3 : Int32) (σ : St) : Option Int32 := (f_X9_toldOften_6 x1 x2 x3 σ fu (0 : Int32) (0 : Int32))
set_option maxRecDepth 100000 in
set_option maxHeartbeats 4000000 in
theorem t_X9_toldOften (l : Launch) (G : GT) (hG : Dw G) (x1 : Int32) (x2 : Int32) (x3 : Int32) (σ : St) (o : Int32) (hF : f_X9_toldOften x1 x2 x3 σ = some o) : Ct l G yX9_toldOften wsX9_toldOften 0 0 [.ref (gA G 61), .int x1, .int x2, .int x3] σ (some (.int o)) σ := by
  refine Met.ofW (cc := cX9_toldOften) (maxL := 6) (ret := (some .int)) (by decide) rfl ?_
  intro p e s m args below meth c s₁ B hml hv
  obtain ⟨rfl, hP, hK⟩ := hv
  have hx := B.exec
  have hb := B.bytes
  have hr := B.returns
  have hts := atoms_spec (ws := wsX9_toldOften) B.pre
  have hown : s.vm.findClass RX9 = some m.cls := findClass_of_methodNamed B.named
  have hlocks := B.notSynchronized
  have Z : CallFix p m c cX9_toldOften 6 s _ wsX9_toldOften RX9 := ⟨hx, hb, hml, hown, hts⟩
  have hS : va_S (AG G) s.heap s.heap [] := va_S.rf
  have inX9 : ∀ w ∈ u_ws RX9 TX9 21, w ∈ wsX9_toldOften := by decide +kernel
  have w1 := hts (.fieldLink RX9 43 "AlmanacOfTheYearGoneModel" "size" "[I") (by decide +kernel)
  have w2 := hts (.fieldLink RX9 46 "AlmanacOfTheYearGoneModel" "element" "[I") (by decide +kernel)
  have hl := lv_entry ([.ref (gA G 61), .int x1, .int x2, .int x3]) (n := 6) (Nat.le_of_ble_eq_true rfl)
  rw [lg_entry_eq]
  generalize (lg_sl ([.ref (gA G 61), .int x1, .int x2, .int x3]) ++ List.replicate (6 - (lg_sl ([.ref (gA G 61), .int x1, .int x2, .int x3])).length) Slot.unset).toArray = ls at hl ⊢
  have hl : lv_has ls 6 [(0, .ref (gA G 61)), (1, .int x1), (2, .int x2), (3, .int x3)] := hl
  unfold f_X9_toldOften at hF
  refine lv_iconst (v := 0) hx hb dX9_toldOften_0 (by decide) ?_
  refine lv_istore (lv' := [(4, .int (0 : Int32)), (0, .ref (gA G 61)), (1, .int x1), (2, .int x2), (3, .int x3)]) hx hb dX9_toldOften_1 hl (by decide) rfl (fun ls hl => ?_)
  refine lv_iconst (v := 0) hx hb dX9_toldOften_3 (by decide) ?_
  have J6 : ∀ (fl : Nat) (v4 : Int32) (v5 : Int32) (H : Heap) (locs : List Loc) (hP : Pw G σ H) (hS : va_S (AG G) s.heap H locs) (ls : Array Slot) (hl : lv_has ls 6 [(0, .ref (gA G 61)), (1, .int x1), (2, .int x2), (3, .int x3), (4, .int v4), (5, .int v5)]) (hF : f_X9_toldOften_6 x1 x2 x3 σ fl v4 v5 = some o), W p l e (headSpec wsX9_toldOften ({ frames := 0, cells := 0, slots := 0, locals := 0 })).room s m ([.ref (gA G 61), .int x1, .int x2, .int x3] : List Value).toArray below meth c H locs 0 0 (MQ below (qR G (some (.int o)) σ) ([.ref (gA G 61), .int x1, .int x2, .int x3] : List Value).toArray s 0 0 (AG G)) (F0 m 6 ls []) := by
    intro fl6
    induction fl6 with
    | zero => intro v4 v5 H locs hP hS ls hl hF; cases hF
    | succ fl6 ih6 =>
      intro v4 v5 H locs hP hS ls hl hF
      rw [f_X9_toldOften_6_s] at hF
      refine lv_iload hx hb dX9_toldOften_6 (lv_at hl 5 rfl) ?_
      refine lv_aload_n hx hb dX9_toldOften_8 rfl (lv_at hl 0 rfl) ?_
      refine va_get (ci := 5) (C := RX9) (T := TX9) (N := 21) (v := .ref (gA G 73)) hx hb hts inX9 hown hK.1 hP 61 (at_5 rfl) rfl 18 (by decide) w1 (fun _ h9 => h9) rfl dX9_toldOften_9 ?_
      refine lv_iload_n hx hb dX9_toldOften_12 rfl (lv_at hl 1 rfl) ?_
      obtain ⟨b1, hF⟩ := ite_some hF
      refine va_iald hx hb hK.1 hP 73 0 (at_6 (rfl : kd 73 = 6) (rfl : ln 73 = 8)) rfl (inb_in b1) dX9_toldOften_13 ?_
      refine lv_icmp_ge (tgt := 71) hx hb dX9_toldOften_14 (by decide) (fun c2 => ?_) (fun c2 => ?_)
      · have hF := ite_t c2 hF
        refine lv_iload hx hb dX9_toldOften_71 (lv_at hl 4 rfl) ?_
        exact e_iP hx hb hr hP hS hlocks dX9_toldOften_73 hF
      · have hF := ite_f c2 hF
        refine lv_iload hx hb dX9_toldOften_17 (lv_at hl 4 rfl) ?_
        refine lv_aload_n hx hb dX9_toldOften_19 rfl (lv_at hl 0 rfl) ?_
        refine va_get (ci := 5) (C := RX9) (T := TX9) (N := 21) (v := .ref (gA G 74)) hx hb hts inX9 hown hK.1 hP 61 (at_5 rfl) rfl 19 (by decide) w2 (fun _ h9 => h9) rfl dX9_toldOften_20 ?_
        refine lv_bipush (v := 100) hx hb dX9_toldOften_23 (by decide) ?_
        refine lv_iload_n hx hb dX9_toldOften_25 rfl (lv_at hl 1 rfl) ?_
        refine lv_imul hx hb dX9_toldOften_26 ?_
        refine lv_iload hx hb dX9_toldOften_27 (lv_at hl 5 rfl) ?_
        refine lv_iadd hx hb dX9_toldOften_29 ?_
        obtain ⟨b3, hF⟩ := ite_some hF
        refine va_iald hx hb hK.1 hP 74 0 (at_6 (rfl : kd 74 = 6) (rfl : ln 74 = 800)) rfl (inb_in b3) dX9_toldOften_30 ?_
        refine lv_iload_n hx hb dX9_toldOften_31 rfl (lv_at hl 2 rfl) ?_
        have J62 : ∀ (v5 : Int32) (z0 : Int32) (z1 : Int32) (H : Heap) (locs : List Loc) (hP : Pw G σ H) (hS : va_S (AG G) s.heap H locs) (ls : Array Slot) (hl : lv_has ls 6 [(0, .ref (gA G 61)), (1, .int x1), (2, .int x2), (3, .int x3), (5, .int v5)]) (hF : f_X9_toldOften_62 x1 x2 x3 σ (f_X9_toldOften_6 x1 x2 x3 σ fl6) v5 z0 z1 = some o), W p l e (headSpec wsX9_toldOften ({ frames := 0, cells := 0, slots := 0, locals := 0 })).room s m ([.ref (gA G 61), .int x1, .int x2, .int x3] : List Value).toArray below meth c H locs 0 0 (MQ below (qR G (some (.int o)) σ) ([.ref (gA G 61), .int x1, .int x2, .int x3] : List Value).toArray s 0 0 (AG G)) (F0 m 62 ls [.int z1, .int z0]) := by
          intro v5 z0 z1 H locs hP hS ls hl hF
          rw [f_X9_toldOften_62_e] at hF
          refine lv_iadd hx hb dX9_toldOften_62 ?_
          refine lv_istore (lv' := [(4, .int (z0 + z1)), (0, .ref (gA G 61)), (1, .int x1), (2, .int x2), (3, .int x3), (5, .int v5)]) hx hb dX9_toldOften_63 hl (by decide) rfl (fun ls hl => ?_)
          refine lv_iinc (v := (v5 + (2 : Int32))) (lv' := [(5, .int (v5 + (2 : Int32))), (4, .int (z0 + z1)), (0, .ref (gA G 61)), (1, .int x1), (2, .int x2), (3, .int x3)]) hx hb dX9_toldOften_65 hl (k := 5) rfl rfl (by decide) rfl (fun ls hl => ?_)
          refine lv_goto (tgt := 6) hx hb dX9_toldOften_68 (by decide) ?_
          exact ih6 (z0 + z1) (v5 + (2 : Int32)) _ _ hP hS ls (lv_sub hl [2, 3, 4, 5, 1, 0] rfl) hF
        have J61 : ∀ (v5 : Int32) (z0 : Int32) (H : Heap) (locs : List Loc) (hP : Pw G σ H) (hS : va_S (AG G) s.heap H locs) (ls : Array Slot) (hl : lv_has ls 6 [(0, .ref (gA G 61)), (1, .int x1), (2, .int x2), (3, .int x3), (5, .int v5)]) (hF : f_X9_toldOften_61 x1 x2 x3 σ (f_X9_toldOften_6 x1 x2 x3 σ fl6) v5 z0 = some o), W p l e (headSpec wsX9_toldOften ({ frames := 0, cells := 0, slots := 0, locals := 0 })).room s m ([.ref (gA G 61), .int x1, .int x2, .int x3] : List Value).toArray below meth c H locs 0 0 (MQ below (qR G (some (.int o)) σ) ([.ref (gA G 61), .int x1, .int x2, .int x3] : List Value).toArray s 0 0 (AG G)) (F0 m 61 ls [.int z0]) := by
          intro v5 z0 H locs hP hS ls hl hF
          rw [f_X9_toldOften_61_e] at hF
          refine lv_iconst (v := 0) hx hb dX9_toldOften_61 (by decide) ?_
          exact J62 v5 z0 (0 : Int32) _ _ hP hS ls (lv_sub hl [0, 1, 2, 3, 4] rfl) hF
        refine lv_icmp_ne (tgt := 61) hx hb dX9_toldOften_32 (by decide) (fun c4 => ?_) (fun c4 => ?_)
        · have hF := ite_f c4 hF
          exact J61 v5 v4 _ _ hP hS ls (lv_sub hl [0, 1, 2, 3, 5] rfl) hF
        · have hF := ite_t c4 hF
          refine lv_iload_n hx hb dX9_toldOften_35 rfl (lv_at hl 3 rfl) ?_
          have J57 : ∀ (v5 : Int32) (z0 : Int32) (H : Heap) (locs : List Loc) (hP : Pw G σ H) (hS : va_S (AG G) s.heap H locs) (ls : Array Slot) (hl : lv_has ls 6 [(0, .ref (gA G 61)), (1, .int x1), (2, .int x2), (3, .int x3), (5, .int v5)]) (hF : f_X9_toldOften_57 x1 x2 x3 σ (f_X9_toldOften_6 x1 x2 x3 σ fl6) v5 z0 = some o), W p l e (headSpec wsX9_toldOften ({ frames := 0, cells := 0, slots := 0, locals := 0 })).room s m ([.ref (gA G 61), .int x1, .int x2, .int x3] : List Value).toArray below meth c H locs 0 0 (MQ below (qR G (some (.int o)) σ) ([.ref (gA G 61), .int x1, .int x2, .int x3] : List Value).toArray s 0 0 (AG G)) (F0 m 57 ls [.int z0]) := by
            intro v5 z0 H locs hP hS ls hl hF
            rw [f_X9_toldOften_57_e] at hF
            refine lv_iconst (v := 1) hx hb dX9_toldOften_57 (by decide) ?_
            refine lv_goto (tgt := 62) hx hb dX9_toldOften_58 (by decide) ?_
            exact J62 v5 z0 (1 : Int32) _ _ hP hS ls (lv_sub hl [0, 1, 2, 3, 4] rfl) hF
          refine lv_if_lt (tgt := 57) hx hb dX9_toldOften_36 (by decide) (fun c5 => ?_) (fun c5 => ?_)
          · have hF := ite_t c5 hF
            exact J57 v5 v4 _ _ hP hS ls (lv_sub hl [0, 1, 2, 3, 5] rfl) hF
          · have hF := ite_f c5 hF
            refine lv_aload_n hx hb dX9_toldOften_39 rfl (lv_at hl 0 rfl) ?_
            refine va_get (ci := 5) (C := RX9) (T := TX9) (N := 21) (v := .ref (gA G 74)) hx hb hts inX9 hown hK.1 hP 61 (at_5 rfl) rfl 19 (by decide) w2 (fun _ h9 => h9) rfl dX9_toldOften_40 ?_
            refine lv_bipush (v := 100) hx hb dX9_toldOften_43 (by decide) ?_
            refine lv_iload_n hx hb dX9_toldOften_45 rfl (lv_at hl 1 rfl) ?_
            refine lv_imul hx hb dX9_toldOften_46 ?_
            refine lv_iload hx hb dX9_toldOften_47 (lv_at hl 5 rfl) ?_
            refine lv_iadd hx hb dX9_toldOften_49 ?_
            refine lv_iconst (v := 1) hx hb dX9_toldOften_50 (by decide) ?_
            refine lv_iadd hx hb dX9_toldOften_51 ?_
            obtain ⟨b6, hF⟩ := ite_some hF
            refine va_iald hx hb hK.1 hP 74 0 (at_6 (rfl : kd 74 = 6) (rfl : ln 74 = 800)) rfl (inb_in b6) dX9_toldOften_52 ?_
            refine lv_iload_n hx hb dX9_toldOften_53 rfl (lv_at hl 3 rfl) ?_
            refine lv_icmp_ne (tgt := 61) hx hb dX9_toldOften_54 (by decide) (fun c7 => ?_) (fun c7 => ?_)
            · have hF := ite_f c7 hF
              exact J61 v5 v4 _ _ hP hS ls (lv_sub hl [0, 1, 2, 3, 5] rfl) hF
            · have hF := ite_t c7 hF
              exact J57 v5 v4 _ _ hP hS ls (lv_sub hl [0, 1, 2, 3, 5] rfl) hF
  refine lv_istore (lv' := [(5, .int (0 : Int32)), (4, .int (0 : Int32)), (0, .ref (gA G 61)), (1, .int x1), (2, .int x2), (3, .int x3)]) hx hb dX9_toldOften_4 hl (by decide) rfl (fun ls hl => ?_)
  exact J6 fu (0 : Int32) (0 : Int32) _ _ hP hS ls (lv_sub hl [2, 3, 4, 5, 1, 0] rfl) hF
