/-! THE LAW'S OWN METHOD: element, with its two handlers -/
theorem updL0 {f g : Nat → Int64} {cA : ClassId} {a : Nat} {D : va_G} {cl : List vw_C} {ws : va_W} {H : Heap} {q0 : Nat} (hfg : ∀ k, k < 1 → f k = g k) (h : va_P D cl (ws.set q0 (a, .inl (cA, 1, .inr (.inl f)))) H) : va_P D cl (ws.set q0 (a, .inl (cA, 1, .inr (.inl g)))) H := by
  intro k q hk
  by_cases e : q0 = k
  · subst e
    rcases Nat.lt_or_ge q0 ws.length with hl | hl
    · rw [List.getElem?_set_self hl] at hk
      cases hk
      have h1 := h q0 (a, .inl (cA, 1, .inr (.inl f))) (by rw [List.getElem?_set_self hl])
      have e2 : arrV cA 1 (fun j => Value.long (f j)) = arrV cA 1 (fun j => Value.long (g j)) := arrV_cg (fun j hj => by rw [hfg j hj])
      have h1 : H[a]? = some (arrV cA 1 (fun j => Value.long (f j))) := h1
      rw [e2] at h1
      exact h1
    · rw [List.getElem?_eq_none (by rw [List.length_set]; exact hl)] at hk
      cases hk
  · rw [List.getElem?_set_ne e] at hk
    exact h k q (by rw [List.getElem?_set_ne e]; exact hk)
def elS (σ : St) (o : Nat × Int32) : St := if o.1 = 0 then up σ 75 0 o.2 else σ
set_option maxRecDepth 100000 in
set_option maxHeartbeats 4000000 in
theorem t_L_element (l : Launch) (hfl : l.stackTraces = false) (G : GT) (hG : Dw G) (x1 x2 : Int32) (σ : St) (o : Nat × Int32) (hF : f_X8_element x1 x2 σ = some o) (h3 : o.1 = 0 ∨ o.1 = 1 ∨ o.1 = 2) : Met l yL_element wsL_element ({ frames := 7, cells := 1, slots := 6, locals := 113 }) (va_Pc [.ref (gA G 0), .int x1, .int x2, .ref (gA G 75)] (fun U => Pw G σ U.heap ∧ Kw G U ∧ Xs G U)) (qR G (some (.int (nI o.1))) (elS σ o)) 1 6 (AG G) := by
  refine Met.ofWH (cc := cL_element) (maxL := 5) (ret := (some .int)) (hh := [(0, 9, 12, 13), (0, 9, 16, 15)]) (by decide) rfl ?_
  intro p e s m args below meth c s₁ B hml hv
  obtain ⟨rfl, hP, hK, hX⟩ := hv
  have hx := B.exec
  have hb := B.bytes
  have hr := B.returns
  have hts := atoms_spec (ws := wsL_element) B.pre
  have hown : s.vm.findClass RL = some m.cls := findClass_of_methodNamed B.named
  have hlocks := B.notSynchronized
  have Z : CallFix p m c cL_element 5 s _ wsL_element RL := ⟨hx, hb, hml, hown, hts⟩
  have hS : va_S (AG G) s.heap s.heap [] := va_S.rf
  have htab : c.exceptionTable.toList = [⟨0, 9, 12, 13⟩, ⟨0, 9, 16, 15⟩] := vx_table (x := yL_element) B (hts _ List.mem_cons_self)
  have w1 := hts (.classLink RL 13 "java/lang/IllegalArgumentException") (by decide +kernel)
  have w2 := hts (.classLink RL 15 "java/lang/IllegalStateException") (by decide +kernel)
  have hl := lv_entry ([.ref (gA G 0), .int x1, .int x2, .ref (gA G 75)]) (n := 5) (Nat.le_of_ble_eq_true rfl)
  rw [lg_entry_eq]
  generalize (lg_sl ([.ref (gA G 0), .int x1, .int x2, .ref (gA G 75)]) ++ List.replicate (5 - (lg_sl ([.ref (gA G 0), .int x1, .int x2, .ref (gA G 75)])).length) Slot.unset).toArray = ls at hl ⊢
  have hl : lv_has ls 5 [(0, .ref (gA G 0)), (1, .int x1), (2, .int x2), (3, .ref (gA G 75))] := hl
  refine lv_aload_n hx hb dL_element_0 rfl (lv_at hl 3 rfl) ?_
  refine lv_iconst (v := 0) hx hb dL_element_1 (by decide) ?_
  refine lv_aload_n hx hb dL_element_2 rfl (lv_at hl 0 rfl) ?_
  refine lv_iload_n hx hb dL_element_3 rfl (lv_at hl 1 rfl) ?_
  refine lv_iload_n hx hb dL_element_4 rfl (lv_at hl 2 rfl) ?_
  refine vx_calll (vx_runV (As := [.int x1, .int x2]) (rest := [.int 0, .ref (gA G 75)]) (C := RX8) Z (t_X8_element l hfl G hG x1 x2 σ o hF) (cwV 2 hts gL_element_X8_element rfl rfl rfl (by decide +kernel) ⟨Nat.le_of_ble_eq_true rfl, Nat.le_of_ble_eq_true rfl⟩) ⟨x_blind, va_recv hK.1 hP (ci := 4) rfl (at_4 rfl), fun U hU hW => ⟨rfl, by rw [hU]; exact hP, hK.warm hW, hX.go hS hU hW⟩⟩ rfl rfl hl.1 rfl (lv_room (Nat.le_of_ble_eq_true rfl)) dL_element_5 ⟨Nat.le_of_ble_eq_true rfl, Nat.le_of_ble_eq_true rfl⟩) hS (fun q _ h => h) (fun q h => h) (fun q _ h => h) (fun E ce q9 u t H1 locs1 ht hvm hpx hBX hz hk hS hcell hcv hcl => ?_) (fun r u t H1 locs1 ht hvm hpost hB hz hk hS => ?_)
  · obtain ⟨⟨hne, hE⟩, hP⟩ := hBX
    rw [ht] at hP
    rcases h3 with h0 | h1 | h2
    · exact absurd h0 hne
    · have hE : E = "java/lang/IllegalArgumentException" := by rw [hE, h1]; rfl
      subst hE
      refine vx_catch hown [] ⟨0, 9, 12, 13⟩ [⟨0, 9, 16, 15⟩] htab (fun z hz => by cases hz) (by decide +kernel) (by decide) w1 (va_Nw.use rfl (hX.1 _ exc_c1)) hcell hcv hcl ?_
      show W p l e _ s m _ below meth c H1 locs1 _ _ _ (F0 m 12 ls [.ref q9])
      refine W.widen (k := 1) (n := 6) (Nat.le_of_ble_eq_true rfl) (Nat.le_of_ble_eq_true rfl) ?_
      refine lv_astore (lv' := [(4, .ref q9), (0, .ref (gA G 0)), (1, .int x1), (2, .int x2), (3, .ref (gA G 75))]) hx hb dL_element_12 hl (by decide) rfl (fun ls hl => ?_)
      refine lv_iconst (v := 1) hx hb dL_element_14 (by decide) ?_
      have hP : Pw G (elS σ o) H1 := by unfold elS; rw [if_neg hne]; exact hP
      exact e_iT hx hb hr hP hS hlocks dL_element_15 (by rw [h1]; rfl)
    · have hE : E = "java/lang/IllegalStateException" := by rw [hE, h2]; rfl
      subst hE
      refine vx_catch hown [⟨0, 9, 12, 13⟩] ⟨0, 9, 16, 15⟩ [] htab (fun z hz => ?_) (by decide +kernel) (by decide) w2 (va_Nw.use rfl (hX.1 _ exc_c2)) hcell hcv hcl ?_
      · rcases List.mem_cons.mp hz with rfl | hz
        · exact Or.inr ⟨by decide, _, w1, hX.n4⟩
        · cases hz
      show W p l e _ s m _ below meth c H1 locs1 _ _ _ (F0 m 16 ls [.ref q9])
      refine W.widen (k := 1) (n := 6) (Nat.le_of_ble_eq_true rfl) (Nat.le_of_ble_eq_true rfl) ?_
      refine lv_astore (lv' := [(4, .ref q9), (0, .ref (gA G 0)), (1, .int x1), (2, .int x2), (3, .ref (gA G 75))]) hx hb dL_element_16 hl (by decide) rfl (fun ls hl => ?_)
      refine lv_iconst (v := 2) hx hb dL_element_18 (by decide) ?_
      have hP : Pw G (elS σ o) H1 := by unfold elS; rw [if_neg hne]; exact hP
      exact e_iT hx hb hr hP hS hlocks dL_element_19 (by rw [h2]; rfl)
  · have hB : Pw G σ t.heap := hB
    rw [ht] at hB
    obtain ⟨h0, hr0⟩ := hpost
    refine va_last (A := AG G) (i := 0) hx hb hK.1 hB (hG.D (σ := σ)) hS 75 3 (at_9 rfl) rfl (show ¬ ((0 : Int32) < 0 ∨ 1 ≤ (0 : Int32).toNatClampNeg) by decide) dL_element_8 (fun H locs hP hD hS => ?_)
    have hP : Pw G (elS σ o) H := by
      have e1 : elS σ o = up σ 75 0 o.2 := by unfold elS; rw [if_pos h0]
      rw [e1]
      have h2 := updL0 (g := fun _ => (up σ 75 0 o.2 75 0).toInt64) (fun k hk => by
        obtain rfl : k = 0 := by omega
        unfold vp_updL
        rw [if_pos (show (0 : Nat) = Int32.toNatClampNeg 0 by decide), up_s, pk_us, hr0]) hP
      have e2 : (wsG G σ).set 75 (gA G 75, .inl (gC G 3, 1, .inr (.inl (fun _ => (up σ 75 0 o.2 75 0).toInt64)))) = wsG G (up σ 75 0 o.2) := ws_set (by decide) (cellE_9 rfl) (fun j hj => up_n hj)
      rw [e2] at h2
      exact h2
    refine W.eq (g2 := F0 m 9 ls []) rfl ?_
    refine W.widen (k := 1) (n := 6) (Nat.le_of_ble_eq_true rfl) (Nat.le_of_ble_eq_true rfl) ?_
    refine lv_goto (tgt := 20) hx hb dL_element_9 (by decide) ?_
    refine lv_iconst (v := 0) hx hb dL_element_20 (by decide) ?_
    exact e_iT hx hb hr hP hS hlocks dL_element_21 (by rw [h0]; rfl)
